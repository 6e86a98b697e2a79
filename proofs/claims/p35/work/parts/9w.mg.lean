section mg_9w
/-! ===== the class's world beside the reference's row ===== -/
/-- more objects -/
theorem stA_S {S S' : Nat → Option mO} (hS : ∀ a o, S a = some o → S' a = some o) {sr : Nat → Int} {cl cl' : Nat → Nat → Nat → Nat → Prop} {a hi p e : Nat} {nx : Option Nat} (hcl : ∀ b q r, cl b hi q r → cl' b hi q r) (k : stA S sr cl a nx hi p e) : stA S' sr cl' a nx hi p e :=
  stA_c (Nat.le_refl _) (fun b q r _ g => hcl b q r g) (fun kd num vl y inn g => hS _ _ g) k
theorem stQ_S {S S' : Nat → Option mO} (hS : ∀ a o, S a = some o → S' a = some o) {sr : Nat → Int} {cl cl' : Nat → Nat → Nat → Nat → Prop} {a hi p e : Nat} {nx : Option Nat} (hcl : ∀ b q r, cl b hi q r → cl' b hi q r) (k : stQ S sr cl a nx hi p e) : stQ S' sr cl' a nx hi p e := by
  rcases k with k | ⟨k0, k1, k2, k3, q, b, y, nx2, k4, k5, k6, k7, k8⟩
  · exact Or.inl (stA_S hS hcl k)
  · exact Or.inr ⟨k0, k1, k2, k3, q, b, y, nx2, hS _ _ k4, k5, k6, k7, stA_S hS hcl k8⟩
theorem stL_S {S S' : Nat → Option mO} (hS : ∀ a o, S a = some o → S' a = some o) {sr : Nat → Int} : ∀ (n : Nat) (it : Bool) (o a hi p E : Nat), stL S sr n it o a hi p E → stL S' sr n it o a hi p E
  | 0, _, _, _, _, _, _, h => h.elim
  | n + 1, it, o, a, hi, p, E, h => by
    obtain ⟨nx, mid, e, o', h1, h2, h3, h4⟩ := h
    refine ⟨nx, mid, e, o', ?_, h2, h3, ?_⟩
    · rcases h1 with ⟨k, ko⟩ | ⟨k0, k1, k2, k3, k4, num, vl, y, inn, k5⟩ | ⟨k0, k1, k2, k3, k4, num, vl, y, inn, k5⟩
      · exact Or.inl ⟨stQ_S hS (fun b q r g => stL_S hS n false 0 b mid q r g) k, ko⟩
      · exact Or.inr (Or.inl ⟨k0, k1, k2, k3, k4, num, vl, y, inn, hS _ _ k5⟩)
      · exact Or.inr (Or.inr ⟨k0, k1, k2, k3, k4, num, vl, y, inn, hS _ _ k5⟩)
    · rcases h4 with h4 | ⟨h4, h5, b, h6, h7, h8⟩
      · exact Or.inl h4
      · exact Or.inr ⟨h4, h5, b, h6, h7, stL_S hS n it o' b hi (e + 1) E h8⟩
def swT (s : Int) : Int := if s = 1 then 2 else if s = 2 then 1 else s
theorem swT_0 {s : Int} (h : 0 ≤ s ∧ s ≤ 2) : swT s = 0 ↔ s = 0 := by unfold swT; split <;> (try split) <;> omega
def nmR (m : Nat → Int) (t : Nat) : Int64 := nmY m (265 + 14 * t) (265 + 14 * t + (m (261 + 14 * t)).toNat)
def nmOk (m : Nat → Int) (t : Nat) : Prop := (1 ≤ m (261 + 14 * t) ∧ m (261 + 14 * t) ≤ 7) ∧ ∀ j : Nat, (j : Int) < m (261 + 14 * t) → isLt (m (265 + 14 * t + j))
/-- a closer's text, or that there is none -/
def tpO (S : Nat → Option mO) (pool : Nat → Int) (r : Option Nat) (P E : Nat) : Prop := (P = E ∧ r = none) ∨ (∃ b hi n, r = some b ∧ stL S pool n false 0 b hi P E)
def crN (m c : Nat → Int) : Prop := c 0 = m 1 ∧ c 1 = m 0 ∧ c 2 = m 3 ∧ c 8 = 8 ∧ c 9 = m 2
def crT (m c : Nat → Int) (nm : Nat → Int64) : Prop := ∀ t : Nat, (t : Int) < m 1 → c (32 + 3 * t) = swT (m (258 + 14 * t)) ∧ c (33 + 3 * t) = m (259 + 14 * t) ∧ c (34 + 3 * t) = m (264 + 14 * t) ∧ nm t = nmR m t ∧ nmOk m t
def crS (m c : Nat → Int) : Prop := ∀ a : Nat, (a : Int) < m 0 → c (304 + 3 * a) = swT (m (18 + 4 * a)) ∧ c (305 + 3 * a) = m (19 + 4 * a) ∧ c (306 + 3 * a) = m (21 + 4 * a)
def crK (m c : Nat → Int) : Prop := ∀ q : Nat, (q : Int) < m 3 → c (489 + 9 * q) = m (1610 + 72 * q) ∧ c (496 + 9 * q) = m (1614 + 72 * q)
def crL (m : Nat → Int) (C : Nat → Nat → Int) : Prop := (∀ k : Nat, k < 8 → C 0 k = m (10 + k)) ∧ ∀ k : Nat, (k : Int) < m 2 → C 1 k = m (1518 + k)
/-- an entry of some scope -/
def nodP (m : Nat → Int) (e : Int) : Prop := (∃ t : Nat, e = t ∧ (t : Int) < m 1 ∧ ¬ m (258 + 14 * t) = 2) ∨ (∃ a : Nat, e = 100 + (a : Int) ∧ 1 ≤ a ∧ (a : Int) < m 0 ∧ ¬ m (18 + 4 * a) = 2)
def crE (m c f : Nat → Int) (Z : Nat) : Prop := c 10 = Z ∧ (Z : Int) + 1 ≤ m 1 + m 0 ∧ (∀ j, j < Z → nodP m (f j)) ∧ (∀ j k, j < k → k < Z → stampI m (f j) < stampI m (f k)) ∧ (∀ e, nodP m e → ∃ j, j < Z ∧ f j = e) ∧ (∀ e, nodP m e → stampI m e ≤ m 6)
def faB (f : Nat → Int) (j : Nat) : Bool := decide (0 ≤ f j)
def crF (m c : Nat → Int) (C : Nat → Nat → Int) (x : Int) (F : Nat) : Prop := (c 11 = F ∧ c 12 = F ∧ c 13 = F) ∧ (F : Int) ≤ m 2 + x ∧ (0 ≤ c 4 ∧ c 4 ≤ F) ∧ m 4 = cnt (faB (C 5)) F ∧ (∀ j, j < F → 0 ≤ C 5 j → m (2328 + 3 * (cnt (faB (C 5)) j).toNat) = C 5 j ∧ m (2329 + 3 * (cnt (faB (C 5)) j).toNat) = C 3 j ∧ m (2330 + 3 * (cnt (faB (C 5)) j).toNat) = C 4 j) ∧ m 5 = cnt (gbB (c 4).toNat (C 5) (-1)) F ∧ (∀ j : Nat, j < F → c 4 ≤ j → C 5 j = -1 → m (2688 + 2 * (cnt (gbB (c 4).toNat (C 5) (-1)) j).toNat) = C 3 j ∧ m (2689 + 2 * (cnt (gbB (c 4).toNat (C 5) (-1)) j).toNat) = C 4 j)
def crG (m pool : Nat → Int) (S : Nat → Option mO) (g : Nat → Option Nat) : Prop := ∀ t : Nat, (t : Int) < m 1 → ∃ P E : Nat, m (262 + 14 * t) = P ∧ m (263 + 14 * t) = E ∧ tpO S pool (g (2 * t)) P E
def crR (c : Nat → Int) (C : Nat → Nat → Int) : Prop := (∀ q, InR (c q)) ∧ ∀ k q, InR (C k q)
def CRx (x : Int) (m pool : Nat → Int) (S : Nat → Option mO) (c : Nat → Int) (C : Nat → Nat → Int) (nm : Nat → Int64) (g : Nat → Option Nat) : Prop :=
  crN m c ∧ crT m c nm ∧ crS m c ∧ crK m c ∧ crL m C ∧ (∃ Z, crE m c (C 2) Z) ∧ (∃ F, crF m c C x F) ∧ crG m pool S g ∧ crR c C
abbrev CR (m pool : Nat → Int) (S : Nat → Option mO) (c : Nat → Int) (C : Nat → Nat → Int) (nm : Nat → Int64) (g : Nat → Option Nat) : Prop := CRx 0 m pool S c C nm g
/-! what the relation looks at -/
theorem nmR_c {m m' : Nat → Int} {t : Nat} (h1 : m' (261 + 14 * t) = m (261 + 14 * t)) (h7 : m (261 + 14 * t) ≤ 7) (h2 : ∀ j, j < 7 → m' (265 + 14 * t + j) = m (265 + 14 * t + j)) : nmR m' t = nmR m t := by
  unfold nmR nmY nmN
  rw [h1]
  have e : cdN (nmG m' (265 + 14 * t) (265 + 14 * t + (m (261 + 14 * t)).toNat)) 7 = cdN (nmG m (265 + 14 * t) (265 + 14 * t + (m (261 + 14 * t)).toNat)) 7 := cdN_c 7 (fun j hj => by
    unfold nmG
    by_cases c : 265 + 14 * t + j < 265 + 14 * t + (m (261 + 14 * t)).toNat
    · rw [if_pos c, if_pos c, h2 j hj]
    · rw [if_neg c, if_neg c])
  rw [e]
theorem nmOk_c {m m' : Nat → Int} {t : Nat} (h1 : m' (261 + 14 * t) = m (261 + 14 * t)) (h2 : ∀ j, j < 7 → m' (265 + 14 * t + j) = m (265 + 14 * t + j)) (h : nmOk m t) : nmOk m' t := by
  unfold nmOk at h ⊢
  rw [h1]
  exact ⟨h.1, fun j hj => by rw [h2 j (by omega)]; exact h.2 j hj⟩
theorem stampI_t {m : Nat → Int} {t : Nat} (h : t < 100) : stampI m (t : Int) = m (260 + 14 * t) := by
  unfold stampI; rw [if_pos (by omega)]; congr 1
theorem stampI_s {m : Nat → Int} {a : Nat} : stampI m (100 + (a : Int)) = m (20 + 4 * a) := by
  unfold stampI; rw [if_neg (by omega)]; congr 1; omega
theorem nodP_c {m m' : Nat → Int} {e : Int} (h0 : m' 0 = m 0) (h1 : m' 1 = m 1) (hT : ∀ t : Nat, (t : Int) < m 1 → (m' (258 + 14 * t) = 2 ↔ m (258 + 14 * t) = 2)) (hS : ∀ a : Nat, 1 ≤ a → (a : Int) < m 0 → (m' (18 + 4 * a) = 2 ↔ m (18 + 4 * a) = 2)) : nodP m' e ↔ nodP m e := by
  unfold nodP
  rw [h0, h1]
  constructor
  · rintro (⟨t, a, b, c⟩ | ⟨t, a, d, b, c⟩)
    · exact Or.inl ⟨t, a, b, fun z => c ((hT t b).mpr z)⟩
    · exact Or.inr ⟨t, a, d, b, fun z => c ((hS t d b).mpr z)⟩
  · rintro (⟨t, a, b, c⟩ | ⟨t, a, d, b, c⟩)
    · exact Or.inl ⟨t, a, b, fun z => c ((hT t b).mp z)⟩
    · exact Or.inr ⟨t, a, d, b, fun z => c ((hS t d b).mp z)⟩
theorem stampI_c {m m' : Nat → Int} {e : Int} (h1 : m 1 ≤ 90) (hT : ∀ t : Nat, (t : Int) < m 1 → m' (260 + 14 * t) = m (260 + 14 * t)) (hS : ∀ a : Nat, 1 ≤ a → (a : Int) < m 0 → m' (20 + 4 * a) = m (20 + 4 * a)) (k : nodP m e) : stampI m' e = stampI m e := by
  rcases k with ⟨t, rfl, b, -⟩ | ⟨a, rfl, d, b, -⟩
  · rw [stampI_t (by omega), stampI_t (by omega)]; exact hT t b
  · rw [stampI_s, stampI_s]; exact hS a d b
theorem crE_c {m m' c c' f : Nat → Int} {Z : Nat} (h : crE m c f Z) (hk : m 1 ≤ 90) (hc : c' 10 = c 10) (h0 : m' 0 = m 0) (h1 : m' 1 = m 1) (h6 : m' 6 = m 6) (hT : ∀ t : Nat, (t : Int) < m 1 → (m' (258 + 14 * t) = 2 ↔ m (258 + 14 * t) = 2) ∧ m' (260 + 14 * t) = m (260 + 14 * t)) (hS : ∀ a : Nat, 1 ≤ a → (a : Int) < m 0 → (m' (18 + 4 * a) = 2 ↔ m (18 + 4 * a) = 2) ∧ m' (20 + 4 * a) = m (20 + 4 * a)) : crE m' c' f Z := by
  obtain ⟨e1, e2, e3, e4, e5, e6⟩ := h
  have nd : ∀ e, nodP m' e ↔ nodP m e := fun e => nodP_c h0 h1 (fun t a => (hT t a).1) (fun a b d => (hS a b d).1)
  have sp : ∀ e, nodP m e → stampI m' e = stampI m e := fun e => stampI_c hk (fun t a => (hT t a).2) (fun a b d => (hS a b d).2)
  refine ⟨by rw [hc]; exact e1, by rw [h0, h1]; exact e2, fun j hj => (nd _).mpr (e3 j hj), fun j k a b => ?_, fun e he => e5 e ((nd e).mp he), fun e he => ?_⟩
  · rw [sp _ (e3 j (by omega)), sp _ (e3 k b)]; exact e4 j k a b
  · have := (nd e).mp he
    rw [sp e this, h6]; exact e6 e this
theorem crF_c {m m' c c' : Nat → Int} {C C' : Nat → Nat → Int} {x : Int} {F : Nat} (h : crF m c C x F) (hF : F ≤ 90) (h11 : c' 11 = c 11) (h12 : c' 12 = c 12) (h13 : c' 13 = c 13) (h4c : c' 4 = c 4) (h2 : m' 2 = m 2) (h4 : m' 4 = m 4) (h5 : m' 5 = m 5) (hm : ∀ q, 2328 ≤ q → q < 2928 → m' q = m q) (C3 : C' 3 = C 3) (C4 : C' 4 = C 4) (C5 : C' 5 = C 5) : crF m' c' C' x F := by
  obtain ⟨f1, f2, f3, f4, f5, f6, f7⟩ := h
  unfold crF
  rw [h11, h12, h13, h4c, h2, h4, h5, C3, C4, C5]
  refine ⟨f1, f2, f3, f4, fun j a b => ?_, f6, fun j a b d => ?_⟩
  · have r := cnt_r (faB (C 5)) j
    rw [hm _ (by omega) (by omega), hm _ (by omega) (by omega), hm _ (by omega) (by omega)]
    exact f5 j a b
  · have r := cnt_r (gbB (c 4).toNat (C 5) (-1)) j
    rw [hm _ (by omega) (by omega), hm _ (by omega) (by omega)]
    exact f7 j a b d
/-- cells of the row that the relation looks at -/
def seeM (q : Nat) : Prop := q ≤ 6 ∨ (10 ≤ q ∧ q < 1608) ∨ 2328 ≤ q ∨ ∃ t : Nat, q = 1610 + 72 * t ∨ q = 1614 + 72 * t
/-- cells of the world that it looks at -/
def seeC (q : Nat) : Prop := q ≤ 2 ∨ q = 4 ∨ (8 ≤ q ∧ q ≤ 13) ∨ (32 ≤ q ∧ q < 302) ∨ (304 ≤ q ∧ q < 484) ∨ ∃ t : Nat, q = 489 + 9 * t ∨ q = 496 + 9 * t
section CRc
variable {x : Int} {m m' pool pool' c c' : Nat → Int} {S S' : Nat → Option mO} {C C' : Nat → Nat → Int} {nm : Nat → Int64} {g g' : Nat → Option Nat}
theorem CRx.fb (h : CRx x m pool S c C nm g) (hok : mOk m) (hx : x ≤ 1) : ∀ F, crF m c C x F → F ≤ 91 := fun F k => by
  have := k.2.1
  have := hok.2.2.2.1
  omega
/-- cells that the relation doesn't look at -/
theorem CRx.see (h : CRx x m pool S c C nm g) (hok : mOk m) (hx : x ≤ 0) (hm : ∀ q, seeM q → m' q = m q) (hc : ∀ q, seeC q → c' q = c q) (hr : ∀ q, InR (c' q)) (hg : ∀ t, t < 90 → g' (2 * t) = g (2 * t)) : CRx x m' pool S c' C nm g' := by
  obtain ⟨n, T, A, K, L, ⟨Z, e⟩, ⟨F, f⟩, G, R⟩ := h
  have k0 := hok.2.1
  have k1 := hok.2.2.1
  have k2 := hok.2.2.2.1
  have k3 := hok.2.2.2.2.1
  have M0 : m' 0 = m 0 := hm 0 (Or.inl (by omega))
  have M1 : m' 1 = m 1 := hm 1 (Or.inl (by omega))
  have M2 : m' 2 = m 2 := hm 2 (Or.inl (by omega))
  have M3 : m' 3 = m 3 := hm 3 (Or.inl (by omega))
  have mm : ∀ q, 10 ≤ q → q < 1608 → m' q = m q := fun q a b => hm q (Or.inr (Or.inl ⟨a, b⟩))
  refine ⟨?_, ?_, ?_, ?_, ?_, ⟨Z, ?_⟩, ⟨F, ?_⟩, ?_, hr, R.2⟩
  · unfold crN
    rw [M0, M1, M2, M3, hc 0 (Or.inl (by omega)), hc 1 (Or.inl (by omega)), hc 2 (Or.inl (by omega)), hc 8 (Or.inr (Or.inr (Or.inl (by omega)))), hc 9 (Or.inr (Or.inr (Or.inl (by omega))))]
    exact n
  · intro t ht
    rw [M1] at ht
    obtain ⟨t1, t2, t3, t4, t5⟩ := T t ht
    have cc : ∀ q, 32 ≤ q → q < 302 → c' q = c q := fun q a b => hc q (Or.inr (Or.inr (Or.inr (Or.inl ⟨a, b⟩))))
    rw [cc _ (by omega) (by omega), cc _ (by omega) (by omega), cc _ (by omega) (by omega), mm _ (by omega) (by omega), mm _ (by omega) (by omega), mm _ (by omega) (by omega)]
    refine ⟨t1, t2, t3, ?_, nmOk_c (mm _ (by omega) (by omega)) (fun j hj => mm _ (by omega) (by omega)) t5⟩
    rw [t4]
    exact (nmR_c (mm _ (by omega) (by omega)) t5.1.2 (fun j hj => mm _ (by omega) (by omega))).symm
  · intro a ha
    rw [M0] at ha
    have cc : ∀ q, 304 ≤ q → q < 484 → c' q = c q := fun q a b => hc q (Or.inr (Or.inr (Or.inr (Or.inr (Or.inl ⟨a, b⟩)))))
    rw [cc _ (by omega) (by omega), cc _ (by omega) (by omega), cc _ (by omega) (by omega), mm _ (by omega) (by omega), mm _ (by omega) (by omega), mm _ (by omega) (by omega)]
    exact A a ha
  · intro q hq
    rw [M3] at hq
    rw [hc _ (Or.inr (Or.inr (Or.inr (Or.inr (Or.inr ⟨q, Or.inl rfl⟩))))), hc _ (Or.inr (Or.inr (Or.inr (Or.inr (Or.inr ⟨q, Or.inr rfl⟩))))), hm _ (Or.inr (Or.inr (Or.inr ⟨q, Or.inl rfl⟩))), hm _ (Or.inr (Or.inr (Or.inr ⟨q, Or.inr rfl⟩)))]
    exact K q hq
  · refine ⟨fun k hk => by rw [mm _ (by omega) (by omega)]; exact L.1 k hk, fun k hk => ?_⟩
    rw [M2] at hk
    rw [mm _ (by omega) (by omega)]; exact L.2 k hk
  · exact crE_c e k1.2 (hc 10 (Or.inr (Or.inr (Or.inl (by omega))))) M0 M1 (hm 6 (Or.inl (by omega))) (fun t ht => by rw [mm _ (by omega) (by omega), mm _ (by omega) (by omega)]; exact ⟨Iff.rfl, rfl⟩) (fun a ha hb => by rw [mm _ (by omega) (by omega), mm _ (by omega) (by omega)]; exact ⟨Iff.rfl, rfl⟩)
  · have := f.2.1
    exact crF_c f (by omega) (hc 11 (Or.inr (Or.inr (Or.inl (by omega))))) (hc 12 (Or.inr (Or.inr (Or.inl (by omega))))) (hc 13 (Or.inr (Or.inr (Or.inl (by omega))))) (hc 4 (Or.inr (Or.inl rfl))) M2 (hm 4 (Or.inl (by omega))) (hm 5 (Or.inl (by omega))) (fun q a b => hm q (Or.inr (Or.inr (Or.inl a)))) rfl rfl rfl
  · intro t ht
    rw [M1] at ht
    rw [mm _ (by omega) (by omega), mm _ (by omega) (by omega), hg t (by omega)]
    exact G t ht
end CRc
end mg_9w
section mg_9x
/-! ===== what happens on both sides keeps the relation ===== -/
section ORD
/-- the nodes of P stand in a row by their stamps -/
def ordE (P : Int → Prop) (st : Int → Int) (top : Int) (f : Nat → Int) (Z : Nat) : Prop := (∀ j, j < Z → P (f j)) ∧ (∀ j k, j < k → k < Z → st (f j) < st (f k)) ∧ (∀ e, P e → ∃ j, j < Z ∧ f j = e) ∧ (∀ e, P e → st e ≤ top)
variable {P P' : Int → Prop} {st st' : Int → Int} {top top' : Int} {f : Nat → Int} {Z : Nat}
theorem ordE_i (h : ordE P st top f Z) {j k : Nat} (hj : j < Z) (hk : k < Z) (e : f j = f k) : j = k := by
  by_cases a : j < k
  · have := h.2.1 j k a hk; rw [e] at this; omega
  · by_cases b : k < j
    · have := h.2.1 k j b hj; rw [e] at this; omega
    · omega
theorem ordE_c (h : ordE P st top f Z) (hP : ∀ e, P' e ↔ P e) (hs : ∀ e, P e → st' e = st e) (ht : top ≤ top') : ordE P' st' top' f Z := by
  obtain ⟨a, b, c, d⟩ := h
  refine ⟨fun j hj => (hP _).mpr (a j hj), fun j k x y => ?_, fun e he => c e ((hP e).mp he), fun e he => ?_⟩
  · rw [hs _ (a j (by omega)), hs _ (a k y)]; exact b j k x y
  · have := (hP e).mp he
    rw [hs e this]; have := d e this; omega
theorem ordE_a (h : ordE P st top f Z) {e1 : Int} (hs : ∀ e, P e → st' e = st e) (h1 : top < st' e1) (h2 : st' e1 ≤ top') : ordE (fun e => P e ∨ e = e1) st' top' (updI f Z e1) (Z + 1) := by
  obtain ⟨a, b, c, d⟩ := h
  have lo : ∀ j, j < Z → updI f Z e1 j = f j := fun j hj => updI_n (by omega)
  refine ⟨fun j hj => ?_, fun j k x y => ?_, fun e he => ?_, fun e he => ?_⟩
  · by_cases q : j = Z
    · subst q; rw [updI_s]; exact Or.inr rfl
    · rw [lo j (by omega)]; exact Or.inl (a j (by omega))
  · rw [lo j (by omega)]
    by_cases q : k = Z
    · subst q
      rw [updI_s, hs _ (a j (by omega))]
      have := d _ (a j (by omega)); omega
    · rw [lo k (by omega), hs _ (a j (by omega)), hs _ (a k (by omega))]; exact b j k x (by omega)
  · rcases he with he | rfl
    · obtain ⟨j, j1, j2⟩ := c e he
      exact ⟨j, by omega, by rw [lo j j1]; exact j2⟩
    · exact ⟨Z, by omega, updI_s⟩
  · rcases he with he | rfl
    · rw [hs e he]; have := d e he; omega
    · exact h2
theorem dr_lo {v : Int} : ∀ n, (∀ j, j < n → ¬ f j = v) → cnt (notB v f) n = n ∧ ∀ q, drA v f n q = f q
  | 0, _ => ⟨rfl, fun _ => rfl⟩
  | n + 1, h => by
    obtain ⟨a, b⟩ := dr_lo n (fun j hj => h j (by omega))
    have hn := h n (by omega)
    have e : notB v f n = true := decide_eq_true hn
    constructor
    · rw [cnt_S, e, a, if_pos rfl]; omega
    · intro q
      show (if f n = v then drA v f n else updI (drA v f n) (cnt (notB v f) n).toNat (f n)) q = f q
      rw [if_neg hn, a]
      by_cases c : q = n
      · subst c; rw [Int.toNat_natCast, updI_s]
      · rw [Int.toNat_natCast, updI_n c]; exact b q
theorem dr_hi {v : Int} {j0 : Nat} (hj : f j0 = v) (hu : ∀ j, j < Z → f j = v → j = j0) : ∀ n, j0 < n → n ≤ Z → cnt (notB v f) n + 1 = n ∧ ∀ q, drA v f n q = if q < j0 then f q else if q + 1 < n then f (q + 1) else f q
  | 0, h, _ => by omega
  | n + 1, h, hz => by
    by_cases c : j0 = n
    · subst c
      obtain ⟨a, b⟩ := dr_lo (v := v) (f := f) j0 (fun j hj2 g => by have := hu j (by omega) g; omega)
      have e : notB v f j0 = false := decide_eq_false (fun g => g hj)
      constructor
      · rw [cnt_S, e, a, if_neg (by decide)]; omega
      · intro q
        show (if f j0 = v then drA v f j0 else updI (drA v f j0) (cnt (notB v f) j0).toNat (f j0)) q = _
        rw [if_pos hj, b]
        by_cases g : q < j0
        · rw [if_pos g]
        · rw [if_neg g, if_neg (by omega)]
    · obtain ⟨a, b⟩ := dr_hi hj hu n (by omega) (by omega)
      have hn : ¬ f n = v := fun g => c (hu n (by omega) g).symm
      have e : notB v f n = true := decide_eq_true hn
      have e2 : (cnt (notB v f) n).toNat = n - 1 := by omega
      constructor
      · rw [cnt_S, e, if_pos rfl]; omega
      · intro q
        show (if f n = v then drA v f n else updI (drA v f n) (cnt (notB v f) n).toNat (f n)) q = _
        rw [if_neg hn, e2]
        by_cases g : q = n - 1
        · subst g
          rw [updI_s, if_neg (by omega), if_pos (by omega)]
          congr 1; omega
        · rw [updI_n g, b]
          by_cases g2 : q < j0
          · rw [if_pos g2, if_pos g2]
          · rw [if_neg g2, if_neg g2]
            by_cases g3 : q + 1 < n
            · rw [if_pos g3, if_pos (by omega)]
            · rw [if_neg g3, if_neg (by omega)]
theorem ordE_d (h : ordE P st top f Z) {e0 : Int} (h0 : P e0) : cnt (notB e0 f) Z + 1 = Z ∧ 1 ≤ Z ∧ ordE (fun e => P e ∧ ¬ e = e0) st top (drA e0 f Z) (Z - 1) := by
  obtain ⟨j0, j1, j2⟩ := h.2.2.1 e0 h0
  obtain ⟨x, y⟩ := dr_hi (v := e0) (j0 := j0) j2 (fun j hj g => ordE_i h hj j1 (g.trans j2.symm)) Z j1 (Nat.le_refl _)
  have inj := fun {j k : Nat} hj hk e => ordE_i h (j := j) (k := k) hj hk e
  obtain ⟨a, b, c, d⟩ := h
  have v : ∀ q, q < Z - 1 → drA e0 f Z q = f (if q < j0 then q else q + 1) := fun q hq => by
    rw [y q]
    by_cases g : q < j0
    · rw [if_pos g, if_pos g]
    · rw [if_neg g, if_neg g, if_pos (by omega)]
  refine ⟨x, by omega, fun j hj => ?_, fun j k p q => ?_, fun e he => ?_, fun e he => d e he.1⟩
  · rw [v j hj]
    have s : (if j < j0 then j else j + 1) < Z ∧ ¬ (if j < j0 then j else j + 1) = j0 := by split <;> omega
    exact ⟨a _ s.1, fun g => s.2 (inj s.1 j1 (g.trans j2.symm))⟩
  · rw [v j (by omega), v k q]
    refine b _ _ ?_ ?_
    · by_cases g : k < j0
      · rw [if_pos g, if_pos (by omega)]; exact p
      · rw [if_neg g]; split <;> omega
    · split <;> omega
  · obtain ⟨j, k1, k2⟩ := c e he.1
    have ne : ¬ j = j0 := fun g => he.2 (by rw [← k2, g]; exact j2)
    by_cases g : j < j0
    · exact ⟨j, by omega, by rw [v j (by omega), if_pos g]; exact k2⟩
    · exact ⟨j - 1, by omega, by rw [v _ (by omega), if_neg (by omega), show j - 1 + 1 = j by omega]; exact k2⟩
end ORD
theorem crE_o {m c f : Nat → Int} {Z : Nat} : crE m c f Z ↔ c 10 = Z ∧ (Z : Int) + 1 ≤ m 1 + m 0 ∧ ordE (nodP m) (stampI m) (m 6) f Z := Iff.rfl
section CMP
variable {m m' c c' : Nat → Int} {C C' : Nat → Nat → Int} {nm nm' : Nat → Int64} {g g' : Nat → Option Nat} {S : Nat → Option mO} {pool : Nat → Int}
theorem crT_c (h : crT m c nm) (k1 : m 1 ≤ 90) (h1 : m' 1 = m 1) (hm : ∀ q, 258 ≤ q → q < 1518 → m' q = m q) (hc : ∀ q, 32 ≤ q → q < 302 → c' q = c q) (hn : nm' = nm) : crT m' c' nm' := fun t ht => by
  subst hn
  rw [h1] at ht
  obtain ⟨t1, t2, t3, t4, t5⟩ := h t ht
  rw [hc _ (by omega) (by omega), hc _ (by omega) (by omega), hc _ (by omega) (by omega), hm _ (by omega) (by omega), hm _ (by omega) (by omega), hm _ (by omega) (by omega)]
  exact ⟨t1, t2, t3, t4.trans (nmR_c (hm _ (by omega) (by omega)) t5.1.2 (fun j hj => hm _ (by omega) (by omega))).symm, nmOk_c (hm _ (by omega) (by omega)) (fun j hj => hm _ (by omega) (by omega)) t5⟩
theorem crS_c (h : crS m c) (k0 : m 0 ≤ 60) (h0 : m' 0 = m 0) (hm : ∀ q, 18 ≤ q → q < 258 → m' q = m q) (hc : ∀ q, 304 ≤ q → q < 484 → c' q = c q) : crS m' c' := fun a ha => by
  rw [h0] at ha
  rw [hc _ (by omega) (by omega), hc _ (by omega) (by omega), hc _ (by omega) (by omega), hm _ (by omega) (by omega), hm _ (by omega) (by omega), hm _ (by omega) (by omega)]
  exact h a ha
theorem crK_c (h : crK m c) (h3 : m' 3 = m 3) (hm : ∀ q, 1608 ≤ q → q < 2328 → m' q = m q) (hc : ∀ q, 488 ≤ q → c' q = c q) (k3 : m 3 ≤ 10) : crK m' c' := fun q hq => by
  rw [h3] at hq
  rw [hc _ (by omega), hc _ (by omega), hm _ (by omega) (by omega), hm _ (by omega) (by omega)]
  exact h q hq
theorem crL_c (h : crL m C) (k2 : m 2 ≤ 90) (h2 : m' 2 = m 2) (hm : ∀ q, 10 ≤ q → q < 18 → m' q = m q) (hm2 : ∀ q, 1518 ≤ q → q < 1608 → m' q = m q) (h0 : C' 0 = C 0) (h1 : C' 1 = C 1) : crL m' C' := by
  refine ⟨fun k hk => by rw [h0, hm _ (by omega) (by omega)]; exact h.1 k hk, fun k hk => ?_⟩
  rw [h2] at hk
  rw [h1, hm2 _ (by omega) (by omega)]; exact h.2 k hk
theorem crG_c (h : crG m pool S g) (k1 : m 1 ≤ 90) (h1 : m' 1 = m 1) (hm : ∀ t : Nat, (t : Int) < m 1 → m' (262 + 14 * t) = m (262 + 14 * t) ∧ m' (263 + 14 * t) = m (263 + 14 * t)) (hg : ∀ t, t < 90 → g' (2 * t) = g (2 * t)) : crG m' pool S g' := fun t ht => by
  rw [h1] at ht
  rw [(hm t ht).1, (hm t ht).2, hg t (by omega)]
  exact h t ht
theorem updC_r {C : Nat → Nat → Int} (h : ∀ k q, InR (C k q)) {k : Nat} {f : Nat → Int} (hf : ∀ q, InR (f q)) : ∀ j q, InR (updC C k f j q) := fun j q => by
  by_cases e : j = k
  · subst e; rw [updC_s]; exact hf q
  · rw [updC_n e]; exact h j q
theorem drA_r {v : Int} {f : Nat → Int} (hf : ∀ q, InR (f q)) : ∀ n q, InR (drA v f n q)
  | 0, q => hf q
  | n + 1, q => by
    show InR ((if f n = v then drA v f n else updI (drA v f n) (cnt (notB v f) n).toNat (f n)) q)
    split
    · exact drA_r hf n q
    · exact updI_r (drA_r hf n) (hf n) q
end CMP
section CHG
variable {x : Int} {m pool c : Nat → Int} {S : Nat → Option mO} {C : Nat → Nat → Int} {nm : Nat → Int64} {g : Nat → Option Nat}
/-- a closing begins -/
theorem CR_cng (h : CRx x m pool S c C nm g) (hok : mOk m) (hx : x ≤ 0) {t : Nat} (ht : (t : Int) < m 1) (h0 : m (258 + 14 * t) = 0) : CRx x (updI m (258 + 14 * t) 1) pool S (updI c (32 + 3 * t) 2) C nm (btG g t) := by
  obtain ⟨n, T, A, K, L, ⟨Z, e⟩, ⟨F, f⟩, G, R⟩ := h
  have k0 := hok.2.1
  have k1 := hok.2.2.1
  have k2 := hok.2.2.2.1
  have k3 := hok.2.2.2.2.1
  have um : ∀ q, ¬ q = 258 + 14 * t → updI m (258 + 14 * t) 1 q = m q := fun q a => updI_n a
  have uc : ∀ q, ¬ q = 32 + 3 * t → updI c (32 + 3 * t) 2 q = c q := fun q a => updI_n a
  refine ⟨?_, ?_, ?_, ?_, ?_, ⟨Z, ?_⟩, ⟨F, ?_⟩, ?_, updI_r R.1 (by decide), R.2⟩
  · unfold crN
    rw [um 0 (by omega), um 1 (by omega), um 2 (by omega), um 3 (by omega), uc 0 (by omega), uc 1 (by omega), uc 2 (by omega), uc 8 (by omega), uc 9 (by omega)]
    exact n
  · intro u hu
    rw [um 1 (by omega)] at hu
    obtain ⟨t1, t2, t3, t4, t5⟩ := T u hu
    rw [uc (33 + 3 * u) (by omega), uc (34 + 3 * u) (by omega), um (259 + 14 * u) (by omega), um (264 + 14 * u) (by omega)]
    refine ⟨?_, t2, t3, t4.trans (nmR_c (um _ (by omega)) t5.1.2 (fun j hj => um _ (by omega))).symm, nmOk_c (um _ (by omega)) (fun j hj => um _ (by omega)) t5⟩
    by_cases w : u = t
    · subst w; rw [updI_s, updI_s]; decide
    · rw [uc _ (by omega), um _ (by omega)]; exact t1
  · exact crS_c A k0.2 (um 0 (by omega)) (fun q a b => um q (by omega)) (fun q a b => uc q (by omega))
  · exact crK_c K (um 3 (by omega)) (fun q a b => um q (by omega)) (fun q a => uc q (by omega)) k3.2
  · exact crL_c L k2.2 (um 2 (by omega)) (fun q a b => um q (by omega)) (fun q a b => um q (by omega)) rfl rfl
  · refine crE_c e k1.2 (uc 10 (by omega)) (um 0 (by omega)) (um 1 (by omega)) (um 6 (by omega)) (fun u hu => ?_) (fun a ha hb => by rw [um _ (by omega), um _ (by omega)]; exact ⟨Iff.rfl, rfl⟩)
    rw [um (260 + 14 * u) (by omega)]
    refine ⟨?_, rfl⟩
    by_cases w : u = t
    · subst w; rw [updI_s, h0]; decide
    · rw [um _ (by omega)]
  · have := f.2.1
    exact crF_c f (by omega) (uc 11 (by omega)) (uc 12 (by omega)) (uc 13 (by omega)) (uc 4 (by omega)) (um 2 (by omega)) (um 4 (by omega)) (um 5 (by omega)) (fun q a b => um q (by omega)) rfl rfl rfl
  · exact crG_c G k1.2 (um 1 (by omega)) (fun u hu => ⟨um _ (by omega), um _ (by omega)⟩) (fun u hu => by unfold btG; exact updO_n (by omega))
/-- a scope's shutting begins -/
theorem CR_scb (h : CRx x m pool S c C nm g) (hok : mOk m) (hx : x ≤ 0) {a : Nat} (ha : (a : Int) < m 0) (h0 : m (18 + 4 * a) = 0) : CRx x (updI m (18 + 4 * a) 1) pool S (updI c (304 + 3 * a) 2) C nm g := by
  obtain ⟨n, T, A, K, L, ⟨Z, e⟩, ⟨F, f⟩, G, R⟩ := h
  have k0 := hok.2.1
  have k1 := hok.2.2.1
  have k2 := hok.2.2.2.1
  have k3 := hok.2.2.2.2.1
  have um : ∀ q, ¬ q = 18 + 4 * a → updI m (18 + 4 * a) 1 q = m q := fun q w => updI_n w
  have uc : ∀ q, ¬ q = 304 + 3 * a → updI c (304 + 3 * a) 2 q = c q := fun q w => updI_n w
  refine ⟨?_, ?_, ?_, ?_, ?_, ⟨Z, ?_⟩, ⟨F, ?_⟩, ?_, updI_r R.1 (by decide), R.2⟩
  · unfold crN
    rw [um 0 (by omega), um 1 (by omega), um 2 (by omega), um 3 (by omega), uc 0 (by omega), uc 1 (by omega), uc 2 (by omega), uc 8 (by omega), uc 9 (by omega)]
    exact n
  · exact crT_c T k1.2 (um 1 (by omega)) (fun q w y => um q (by omega)) (fun q w y => uc q (by omega)) rfl
  · intro u hu
    rw [um 0 (by omega)] at hu
    obtain ⟨t1, t2, t3⟩ := A u hu
    rw [uc (305 + 3 * u) (by omega), uc (306 + 3 * u) (by omega), um (19 + 4 * u) (by omega), um (21 + 4 * u) (by omega)]
    refine ⟨?_, t2, t3⟩
    by_cases w : u = a
    · subst w; rw [updI_s, updI_s]; decide
    · rw [uc _ (by omega), um _ (by omega)]; exact t1
  · exact crK_c K (um 3 (by omega)) (fun q w y => um q (by omega)) (fun q w => uc q (by omega)) k3.2
  · exact crL_c L k2.2 (um 2 (by omega)) (fun q w y => um q (by omega)) (fun q w y => um q (by omega)) rfl rfl
  · refine crE_c e k1.2 (uc 10 (by omega)) (um 0 (by omega)) (um 1 (by omega)) (um 6 (by omega)) (fun u hu => by rw [um _ (by omega), um _ (by omega)]; exact ⟨Iff.rfl, rfl⟩) (fun u hu hb => ?_)
    rw [um (20 + 4 * u) (by omega)]
    refine ⟨?_, rfl⟩
    by_cases w : u = a
    · subst w; rw [updI_s, h0]; decide
    · rw [um _ (by omega)]
  · have := f.2.1
    exact crF_c f (by omega) (uc 11 (by omega)) (uc 12 (by omega)) (uc 13 (by omega)) (uc 4 (by omega)) (um 2 (by omega)) (um 4 (by omega)) (um 5 (by omega)) (fun q w y => um q (by omega)) rfl rfl rfl
  · exact crG_c G k1.2 (um 1 (by omega)) (fun u hu => ⟨um _ (by omega), um _ (by omega)⟩) (fun _ _ => rfl)
/-- something comes to a counter -/
theorem CR_count (h : CRx x m pool S c C nm g) (hok : mOk m) (hx : x ≤ 0) {k : Nat} {v : Int} (hk : k < 8) (hv : InR v) : CRx x (updI m (10 + k) v) pool S c (updC C 0 (updI (C 0) k v)) nm g := by
  obtain ⟨n, T, A, K, L, ⟨Z, e⟩, ⟨F, f⟩, G, R⟩ := h
  have k0 := hok.2.1
  have k1 := hok.2.2.1
  have k2 := hok.2.2.2.1
  have k3 := hok.2.2.2.2.1
  have um : ∀ q, ¬ q = 10 + k → updI m (10 + k) v q = m q := fun q w => updI_n w
  have C2 : updC C 0 (updI (C 0) k v) 2 = C 2 := updC_n (by decide)
  refine ⟨?_, ?_, ?_, ?_, ?_, ⟨Z, ?_⟩, ⟨F, ?_⟩, ?_, R.1, updC_r R.2 (updI_r (R.2 0) hv)⟩
  · unfold crN
    rw [um 0 (by omega), um 1 (by omega), um 2 (by omega), um 3 (by omega)]
    exact n
  · exact crT_c T k1.2 (um 1 (by omega)) (fun q w y => um q (by omega)) (fun _ _ _ => rfl) rfl
  · exact crS_c A k0.2 (um 0 (by omega)) (fun q w y => um q (by omega)) (fun _ _ _ => rfl)
  · exact crK_c K (um 3 (by omega)) (fun q w y => um q (by omega)) (fun _ _ => rfl) k3.2
  · refine ⟨fun j hj => ?_, fun j hj => ?_⟩
    · rw [updC_s]
      by_cases w : j = k
      · subst w; rw [updI_s, updI_s]
      · rw [updI_n w, um _ (by omega)]; exact L.1 j hj
    · rw [um 2 (by omega)] at hj
      rw [updC_n (by decide), um _ (by omega)]; exact L.2 j hj
  · rw [C2]
    exact crE_c e k1.2 rfl (um 0 (by omega)) (um 1 (by omega)) (um 6 (by omega)) (fun u hu => by rw [um _ (by omega), um _ (by omega)]; exact ⟨Iff.rfl, rfl⟩) (fun u hu hb => by rw [um _ (by omega), um _ (by omega)]; exact ⟨Iff.rfl, rfl⟩)
  · have := f.2.1
    exact crF_c f (by omega) rfl rfl rfl rfl (um 2 (by omega)) (um 4 (by omega)) (um 5 (by omega)) (fun q w y => um q (by omega)) (updC_n (by decide)) (updC_n (by decide)) (updC_n (by decide))
  · exact crG_c G k1.2 (um 1 (by omega)) (fun u hu => ⟨um _ (by omega), um _ (by omega)⟩) (fun _ _ => rfl)
/-- a task's state, or that it is asked for -/
theorem CR_tk (h : CRx x m pool S c C nm g) (hok : mOk m) (hx : x ≤ 0) {q0 : Nat} {v : Int} (hq : q0 < 10) (hv : InR v) : CRx x (updI m (1610 + 72 * q0) v) pool S (updI c (489 + 9 * q0) v) C nm g ∧ CRx x (updI m (1614 + 72 * q0) v) pool S (updI c (496 + 9 * q0) v) C nm g := by
  have main : ∀ i j : Nat, ((i = 1610 + 72 * q0 ∧ j = 489 + 9 * q0) ∨ (i = 1614 + 72 * q0 ∧ j = 496 + 9 * q0)) → CRx x (updI m i v) pool S (updI c j v) C nm g := fun i j hij => by
    obtain ⟨n, T, A, K, L, ⟨Z, e⟩, ⟨F, f⟩, G, R⟩ := h
    have k0 := hok.2.1
    have k1 := hok.2.2.1
    have k2 := hok.2.2.2.1
    have k3 := hok.2.2.2.2.1
    have um : ∀ q, ¬ q = i → updI m i v q = m q := fun q w => updI_n w
    have uc : ∀ q, ¬ q = j → updI c j v q = c q := fun q w => updI_n w
    refine ⟨?_, ?_, ?_, ?_, ?_, ⟨Z, ?_⟩, ⟨F, ?_⟩, ?_, updI_r R.1 hv, R.2⟩
    · unfold crN
      rw [um 0 (by omega), um 1 (by omega), um 2 (by omega), um 3 (by omega), uc 0 (by omega), uc 1 (by omega), uc 2 (by omega), uc 8 (by omega), uc 9 (by omega)]
      exact n
    · exact crT_c T k1.2 (um 1 (by omega)) (fun q w y => um q (by omega)) (fun q w y => uc q (by omega)) rfl
    · exact crS_c A k0.2 (um 0 (by omega)) (fun q w y => um q (by omega)) (fun q w y => uc q (by omega))
    · intro q hq2
      rw [um 3 (by omega)] at hq2
      obtain ⟨a, b⟩ := K q hq2
      rcases hij with ⟨rfl, rfl⟩ | ⟨rfl, rfl⟩
      · rw [uc (496 + 9 * q) (by omega), um (1614 + 72 * q) (by omega)]
        refine ⟨?_, b⟩
        by_cases w : q = q0
        · subst w; rw [updI_s, updI_s]
        · rw [uc _ (by omega), um _ (by omega)]; exact a
      · rw [uc (489 + 9 * q) (by omega), um (1610 + 72 * q) (by omega)]
        refine ⟨a, ?_⟩
        by_cases w : q = q0
        · subst w; rw [updI_s, updI_s]
        · rw [uc _ (by omega), um _ (by omega)]; exact b
    · exact crL_c L k2.2 (um 2 (by omega)) (fun q w y => um q (by omega)) (fun q w y => um q (by omega)) rfl rfl
    · exact crE_c e k1.2 (uc 10 (by omega)) (um 0 (by omega)) (um 1 (by omega)) (um 6 (by omega)) (fun u hu => by rw [um _ (by omega), um _ (by omega)]; exact ⟨Iff.rfl, rfl⟩) (fun u hu hb => by rw [um _ (by omega), um _ (by omega)]; exact ⟨Iff.rfl, rfl⟩)
    · have := f.2.1
      exact crF_c f (by omega) (uc 11 (by omega)) (uc 12 (by omega)) (uc 13 (by omega)) (uc 4 (by omega)) (um 2 (by omega)) (um 4 (by omega)) (um 5 (by omega)) (fun q w y => um q (by omega)) rfl rfl rfl
    · exact crG_c G k1.2 (um 1 (by omega)) (fun u hu => ⟨um _ (by omega), um _ (by omega)⟩) (fun _ _ => rfl)
  exact ⟨main _ _ (Or.inl ⟨rfl, rfl⟩), main _ _ (Or.inr ⟨rfl, rfl⟩)⟩
end CHG
end mg_9x
section mg_9y
/-! ===== what happens on both sides keeps the relation: what comes, what is moved, what ends ===== -/
theorem cnt_mono {p : Nat → Bool} {a : Nat} : ∀ {b : Nat}, a ≤ b → cnt p a ≤ cnt p b
  | 0, h => by
    have : a = 0 := by omega
    subst this; exact Int.le_refl _
  | b + 1, h => by
    by_cases c : a = b + 1
    · subst c; exact Int.le_refl _
    · have := cnt_mono (p := p) (a := a) (b := b) (by omega)
      rw [cnt_S]
      split <;> omega
section CHG2
variable {x : Int} {m pool c : Nat → Int} {S : Nat → Option mO} {C : Nat → Nat → Int} {nm : Nat → Int64} {g : Nat → Option Nat}
theorem nodP_t {m : Nat → Int} {t : Nat} (h : (t : Int) < m 1) (h1 : m 1 ≤ 90) : nodP m (t : Int) ↔ ¬ m (258 + 14 * t) = 2 := by
  constructor
  · rintro (⟨u, a, b, c⟩ | ⟨u, a, d, b, c⟩)
    · have : u = t := by omega
      subst this; exact c
    · exfalso; omega
  · intro k; exact Or.inl ⟨t, rfl, h, k⟩
theorem nodP_s {m : Nat → Int} {a : Nat} (h1 : m 1 ≤ 90) : nodP m (100 + (a : Int)) ↔ 1 ≤ a ∧ (a : Int) < m 0 ∧ ¬ m (18 + 4 * a) = 2 := by
  constructor
  · rintro (⟨u, k, b, c⟩ | ⟨u, k, d, b, c⟩)
    · exfalso; omega
    · have : u = a := by omega
      subst this; exact ⟨d, b, c⟩
  · rintro ⟨d, b, k⟩; exact Or.inr ⟨a, rfl, d, b, k⟩
/-- a thing is CLOSED -/
theorem CR_closed (h : CRx 1 m pool S c C nm g) (hok : mOk m) (h2 : m 2 ≤ 89) {t : Nat} (ht : (t : Int) < m 1) (h1 : m (258 + 14 * t) = 1) {L Z : Nat} (hL : c 9 = (L : Int)) (hZ : c 10 = (Z : Int)) : CRx 0 (closedM m t) pool S (gcC c t L (cnt (notB (t : Int) (C 2)) Z)) (gcD C t L Z) nm g := by
  obtain ⟨n, T, A, K, Lg, ⟨Z', e⟩, ⟨F, f⟩, G, R⟩ := h
  have k0 := hok.2.1
  have k1 := hok.2.2.1
  have k2 := hok.2.2.2.1
  have k3 := hok.2.2.2.2.1
  have hZ' : Z' = Z := by have := e.1; omega
  subst hZ'
  have n9 := n.2.2.2.2
  have hmL : m 2 = (L : Int) := by omega
  obtain ⟨u2, ust, um⟩ := closedM_at (m := m) (t := t) ⟨k2.1, h2⟩ (by omega)
  have upl : closedM m t (264 + 14 * t) = m 2 := by
    unfold closedM
    rw [updI_n (by omega), updI_n (by omega), updI_s]
  have ulog : closedM m t (1518 + L) = t := by
    unfold closedM
    rw [updI_n (by omega), show (1518 + m 2).toNat = 1518 + L by omega, updI_s]
  have ulo : ∀ q, 1518 ≤ q → q < 1608 → ¬ q = 1518 + L → closedM m t q = m q := fun q a b d => by
    unfold closedM
    rw [updI_n (by omega), updI_n (by omega), updI_n (by omega), updI_n (by omega)]
  obtain ⟨d1, d2, d3⟩ := ordE_d (crE_o.mp e).2.2 (e0 := (t : Int)) ((nodP_t ht k1.2).mpr (by rw [h1]; decide))
  obtain ⟨k', hk'⟩ : ∃ k', cnt (notB (t : Int) (C 2)) Z' = k' := ⟨_, rfl⟩
  rw [hk'] at d1 ⊢
  have uc : ∀ q, ¬ q = 32 + 3 * t → ¬ q = 34 + 3 * t → ¬ q = 9 → ¬ q = 10 → gcC c t L k' q = c q := fun q a b d e => by
    unfold gcC
    rw [updI_n (by omega), updI_n (by omega), updI_n (by omega), updI_n (by omega)]
  have cst : gcC c t L k' (32 + 3 * t) = 1 := by unfold gcC; rw [updI_n (by omega), updI_n (by omega), updI_n (by omega), updI_s]
  have cpl : gcC c t L k' (34 + 3 * t) = L := by unfold gcC; rw [updI_n (by omega), updI_n (by omega), updI_s]
  have c9' : gcC c t L k' 9 = (L : Int) + 1 := by unfold gcC; rw [updI_n (by omega), updI_s]
  have c10' : gcC c t L k' 10 = k' := by unfold gcC; rw [updI_s]
  have D2 : gcD C t L Z' 2 = drA (t : Int) (C 2) Z' := by unfold gcD; rw [updC_s]
  have D1 : gcD C t L Z' 1 = updI (C 1) L (t : Int) := by unfold gcD; rw [updC_n (by decide), updC_s]
  have Dn : ∀ k, ¬ k = 1 → ¬ k = 2 → gcD C t L Z' k = C k := fun k a b => by unfold gcD; rw [updC_n b, updC_n a]
  have fb := f.2.1
  have kr := cnt_r (notB (t : Int) (C 2)) Z'
  have er := e.2.1
  refine ⟨?_, ?_, ?_, ?_, ?_, ⟨Z' - 1, ?_⟩, ⟨F, ?_⟩, ?_, ?_, ?_⟩
  · unfold crN
    rw [um 0 (by omega) (by omega) (by omega) (by omega), um 1 (by omega) (by omega) (by omega) (by omega), um 3 (by omega) (by omega) (by omega) (by omega), u2, uc 0 (by omega) (by omega) (by omega) (by omega), uc 1 (by omega) (by omega) (by omega) (by omega), uc 2 (by omega) (by omega) (by omega) (by omega), uc 8 (by omega) (by omega) (by omega) (by omega), c9']
    exact ⟨n.1, n.2.1, n.2.2.1, n.2.2.2.1, by omega⟩
  · intro u hu
    rw [um 1 (by omega) (by omega) (by omega) (by omega)] at hu
    obtain ⟨t1, t2, t3, t4, t5⟩ := T u hu
    rw [uc (33 + 3 * u) (by omega) (by omega) (by omega) (by omega), um (259 + 14 * u) (by omega) (by omega) (by omega) (by omega)]
    have q4 : ∀ q, 261 + 14 * u ≤ q → q < 272 + 14 * u → ¬ q = 264 + 14 * u → closedM m t q = m q := fun q a b d => um q (by omega) (by omega) (by omega) (by omega)
    refine ⟨?_, t2, ?_, t4.trans (nmR_c (q4 _ (by omega) (by omega) (by omega)) t5.1.2 (fun j hj => q4 _ (by omega) (by omega) (by omega))).symm, nmOk_c (q4 _ (by omega) (by omega) (by omega)) (fun j hj => q4 _ (by omega) (by omega) (by omega)) t5⟩
    · by_cases w : u = t
      · subst w; rw [cst, ust]; decide
      · rw [uc _ (by omega) (by omega) (by omega) (by omega), um (258 + 14 * u) (by omega) (by omega) (by omega) (by omega)]; exact t1
    · by_cases w : u = t
      · subst w; rw [cpl, upl]; exact hmL.symm
      · rw [uc _ (by omega) (by omega) (by omega) (by omega), um (264 + 14 * u) (by omega) (by omega) (by omega) (by omega)]; exact t3
  · exact crS_c A k0.2 (um 0 (by omega) (by omega) (by omega) (by omega)) (fun q a b => um q (by omega) (by omega) (by omega) (by omega)) (fun q a b => uc q (by omega) (by omega) (by omega) (by omega))
  · exact crK_c K (um 3 (by omega) (by omega) (by omega) (by omega)) (fun q a b => um q (by omega) (by omega) (by omega) (by omega)) (fun q a => uc q (by omega) (by omega) (by omega) (by omega)) k3.2
  · refine ⟨fun j hj => ?_, fun j hj => ?_⟩
    · rw [Dn 0 (by decide) (by decide), um _ (by omega) (by omega) (by omega) (by omega)]; exact Lg.1 j hj
    · rw [u2] at hj
      rw [D1]
      by_cases w : j = L
      · subst w; rw [updI_s, ulog]
      · rw [updI_n w, ulo _ (by omega) (by omega) (by omega)]; exact Lg.2 j (by omega)
  · rw [D2]
    refine crE_o.mpr ⟨by rw [c10']; omega, by rw [um 0 (by omega) (by omega) (by omega) (by omega), um 1 (by omega) (by omega) (by omega) (by omega)]; omega, ?_⟩
    refine ordE_c d3 (fun e' => ?_) (fun e' he => ?_) (by rw [um 6 (by omega) (by omega) (by omega) (by omega)]; exact Int.le_refl _)
    · unfold nodP
      rw [um 0 (by omega) (by omega) (by omega) (by omega), um 1 (by omega) (by omega) (by omega) (by omega)]
      constructor
      · rintro (⟨u, a, b, d⟩ | ⟨u, a, d1, b, d⟩)
        · have w : ¬ u = t := fun w => by subst w; exact d ust
          rw [um _ (by omega) (by omega) (by omega) (by omega)] at d
          exact ⟨Or.inl ⟨u, a, b, d⟩, by omega⟩
        · rw [um _ (by omega) (by omega) (by omega) (by omega)] at d
          exact ⟨Or.inr ⟨u, a, d1, b, d⟩, by omega⟩
      · rintro ⟨⟨u, a, b, d⟩ | ⟨u, a, d1, b, d⟩, w⟩
        · exact Or.inl ⟨u, a, b, by rw [um _ (by omega) (by omega) (by omega) (by omega)]; exact d⟩
        · exact Or.inr ⟨u, a, d1, b, by rw [um _ (by omega) (by omega) (by omega) (by omega)]; exact d⟩
    · exact stampI_c k1.2 (fun u hu => um _ (by omega) (by omega) (by omega) (by omega)) (fun u hu hb => um _ (by omega) (by omega) (by omega) (by omega)) he.1
  · obtain ⟨f1, f2, f3, f4, f5, f6, f7⟩ := f
    unfold crF
    rw [uc 11 (by omega) (by omega) (by omega) (by omega), uc 12 (by omega) (by omega) (by omega) (by omega), uc 13 (by omega) (by omega) (by omega) (by omega), uc 4 (by omega) (by omega) (by omega) (by omega), u2, um 4 (by omega) (by omega) (by omega) (by omega), um 5 (by omega) (by omega) (by omega) (by omega), Dn 3 (by decide) (by decide), Dn 4 (by decide) (by decide), Dn 5 (by decide) (by decide)]
    refine ⟨f1, by omega, f3, f4, fun j a b => ?_, f6, fun j a b d => ?_⟩
    · have r := cnt_r (faB (C 5)) j
      rw [um _ (by omega) (by omega) (by omega) (by omega), um _ (by omega) (by omega) (by omega) (by omega), um _ (by omega) (by omega) (by omega) (by omega)]
      exact f5 j a b
    · have r := cnt_r (gbB (c 4).toNat (C 5) (-1)) j
      rw [um _ (by omega) (by omega) (by omega) (by omega), um _ (by omega) (by omega) (by omega) (by omega)]
      exact f7 j a b d
  · exact crG_c G k1.2 (um 1 (by omega) (by omega) (by omega) (by omega)) (fun u hu => ⟨um _ (by omega) (by omega) (by omega) (by omega), um _ (by omega) (by omega) (by omega) (by omega)⟩) (fun _ _ => rfl)
  · unfold gcC
    exact updI_r (updI_r (updI_r (updI_r R.1 (by decide)) ⟨by omega, by omega⟩) ⟨by omega, by omega⟩) ⟨by omega, by omega⟩
  · unfold gcD
    exact updC_r (updC_r R.2 (updI_r (R.2 1) ⟨by omega, by omega⟩)) (drA_r (R.2 2) Z')
/-- a fault is gathered -/
theorem CR_gath (h : CRx 0 m pool S c C nm g) (hok : mOk m) (h2 : m 2 ≤ 89) {t : Nat} (ht : t ≤ 89) {b v : Int} (hb : -1 ≤ b ∧ b ≤ 9) (hv : InR v) {F : Nat} (hF : c 11 = (F : Int)) : CRx 1 (gathersM m b v t) pool S (gaC c F) (gaD C F v (t : Int) b) nm g := by
  obtain ⟨n, T, A, K, L, ⟨Z, e⟩, ⟨F', f⟩, G, R⟩ := h
  have k0 := hok.2.1
  have k1 := hok.2.2.1
  have k2 := hok.2.2.2.1
  have k3 := hok.2.2.2.2.1
  have hFF : F' = F := by have := f.1.1; omega
  subst hFF
  obtain ⟨f1, f2, f3, f4, f5, f6, f7⟩ := f
  have rA := cnt_r (faB (C 5)) F'
  have rB := cnt_r (gbB (c 4).toNat (C 5) (-1)) F'
  have um : ∀ q, ¬ q = 4 → ¬ q = 5 → q < 2328 → gathersM m b v t q = m q := fun q a d y => by
    unfold gathersM
    split
    · rw [updI_n (by omega), updI_n (by omega), updI_n (by omega)]
    · rw [updI_n (by omega), updI_n (by omega), updI_n (by omega), updI_n (by omega)]
  have uc : ∀ q, ¬ q = 11 → ¬ q = 12 → ¬ q = 13 → gaC c F' q = c q := fun q a d y => by
    unfold gaC; rw [updI_n (by omega), updI_n (by omega), updI_n (by omega)]
  have c11 : gaC c F' 11 = (F' : Int) + 1 := by unfold gaC; rw [updI_n (by omega), updI_n (by omega), updI_s]
  have c12 : gaC c F' 12 = (F' : Int) + 1 := by unfold gaC; rw [updI_n (by omega), updI_s]
  have c13 : gaC c F' 13 = (F' : Int) + 1 := by unfold gaC; rw [updI_s]
  have D3 : gaD C F' v (t : Int) b 3 = updI (C 3) F' v := by unfold gaD; rw [updC_n (by decide), updC_n (by decide), updC_s]
  have D4 : gaD C F' v (t : Int) b 4 = updI (C 4) F' (t : Int) := by unfold gaD; rw [updC_n (by decide), updC_s]
  have D5 : gaD C F' v (t : Int) b 5 = updI (C 5) F' b := by unfold gaD; rw [updC_s]
  have Dn : ∀ k, k < 3 → gaD C F' v (t : Int) b k = C k := fun k a => by unfold gaD; rw [updC_n (by omega), updC_n (by omega), updC_n (by omega)]
  refine ⟨?_, ?_, ?_, ?_, ?_, ⟨Z, ?_⟩, ⟨F' + 1, ?_⟩, ?_, ?_, ?_⟩
  · unfold crN
    rw [um 0 (by omega) (by omega) (by omega), um 1 (by omega) (by omega) (by omega), um 2 (by omega) (by omega) (by omega), um 3 (by omega) (by omega) (by omega), uc 0 (by omega) (by omega) (by omega), uc 1 (by omega) (by omega) (by omega), uc 2 (by omega) (by omega) (by omega), uc 8 (by omega) (by omega) (by omega), uc 9 (by omega) (by omega) (by omega)]
    exact n
  · exact crT_c T k1.2 (um 1 (by omega) (by omega) (by omega)) (fun q w y => um q (by omega) (by omega) (by omega)) (fun q w y => uc q (by omega) (by omega) (by omega)) rfl
  · exact crS_c A k0.2 (um 0 (by omega) (by omega) (by omega)) (fun q w y => um q (by omega) (by omega) (by omega)) (fun q w y => uc q (by omega) (by omega) (by omega))
  · exact crK_c K (um 3 (by omega) (by omega) (by omega)) (fun q w y => um q (by omega) (by omega) (by omega)) (fun q w => uc q (by omega) (by omega) (by omega)) k3.2
  · exact crL_c L k2.2 (um 2 (by omega) (by omega) (by omega)) (fun q w y => um q (by omega) (by omega) (by omega)) (fun q w y => um q (by omega) (by omega) (by omega)) (Dn 0 (by decide)) (Dn 1 (by decide))
  · rw [Dn 2 (by decide)]
    exact crE_c e k1.2 (uc 10 (by omega) (by omega) (by omega)) (um 0 (by omega) (by omega) (by omega)) (um 1 (by omega) (by omega) (by omega)) (um 6 (by omega) (by omega) (by omega)) (fun u hu => by rw [um _ (by omega) (by omega) (by omega), um _ (by omega) (by omega) (by omega)]; exact ⟨Iff.rfl, rfl⟩) (fun u hu hb => by rw [um _ (by omega) (by omega) (by omega), um _ (by omega) (by omega) (by omega)]; exact ⟨Iff.rfl, rfl⟩)
  · have fa : ∀ j, j ≤ F' → cnt (faB (updI (C 5) F' b)) j = cnt (faB (C 5)) j := fun j hj => cnt_congr j (fun q hq => by unfold faB; rw [updI_n (by omega)])
    have gb : ∀ j, j ≤ F' → cnt (gbB (c 4).toNat (updI (C 5) F' b) (-1)) j = cnt (gbB (c 4).toNat (C 5) (-1)) j := fun j hj => cnt_congr j (fun q hq => by unfold gbB; rw [updI_n (by omega)])
    unfold crF
    rw [c11, c12, c13, uc 4 (by omega) (by omega) (by omega), um 2 (by omega) (by omega) (by omega), D3, D4, D5]
    by_cases hb0 : b < 0
    · have hb1 : b = -1 := by omega
      subst hb1
      have e4 : gathersM m (-1) v t 4 = m 4 := by unfold gathersM; rw [if_pos (by decide), updI_n (by omega), updI_n (by omega), updI_n (by omega)]
      have e5 : gathersM m (-1) v t 5 = m 5 + 1 := by unfold gathersM; rw [if_pos (by decide), updI_s]
      have eA : gathersM m (-1) v t (2688 + 2 * m 5).toNat = v := by unfold gathersM; rw [if_pos (by decide), updI_n (by omega), updI_n (by omega), updI_s]
      have eB : gathersM m (-1) v t (2689 + 2 * m 5).toNat = t := by unfold gathersM; rw [if_pos (by decide), updI_n (by omega), updI_s]
      have eN : ∀ q, 2328 ≤ q → ¬ q = (2688 + 2 * m 5).toNat → ¬ q = (2689 + 2 * m 5).toNat → gathersM m (-1) v t q = m q := fun q a y z => by
        unfold gathersM; rw [if_pos (by decide), updI_n (by omega), updI_n z, updI_n y]
      have q1 : faB (updI (C 5) F' (-1)) F' = false := by unfold faB; rw [updI_s]; exact decide_eq_false (by decide)
      have q2 : gbB (c 4).toNat (updI (C 5) F' (-1)) (-1) F' = true := by unfold gbB; rw [updI_s]; exact decide_eq_true ⟨by omega, rfl⟩
      refine ⟨⟨by omega, by omega, by omega⟩, by omega, ⟨f3.1, by omega⟩, ?_, fun j a d => ?_, ?_, fun j a d y => ?_⟩
      · rw [cnt_S, q1, fa F' (Nat.le_refl _), e4, if_neg (by decide)]; omega
      · have hj : j < F' := by
          by_cases w : j = F'
          · subst w; rw [updI_s] at d; omega
          · omega
        have r := cnt_r (faB (C 5)) j
        rw [updI_n (by omega)] at d ⊢
        rw [updI_n (by omega), updI_n (by omega), fa j (by omega), eN _ (by omega) (by omega) (by omega), eN _ (by omega) (by omega) (by omega), eN _ (by omega) (by omega) (by omega)]
        exact f5 j hj d
      · rw [cnt_S, q2, gb F' (Nat.le_refl _), e5, if_pos rfl]; omega
      · by_cases w : j = F'
        · subst w
          rw [updI_s, updI_s, gb j (Nat.le_refl _), ← f6]
          exact ⟨by rw [show 2688 + 2 * (m 5).toNat = (2688 + 2 * m 5).toNat by omega]; exact eA, by rw [show 2689 + 2 * (m 5).toNat = (2689 + 2 * m 5).toNat by omega]; exact eB⟩
        · have hj : j < F' := by omega
          have r := cnt_r (gbB (c 4).toNat (C 5) (-1)) j
          rw [updI_n w] at y
          have lt : cnt (gbB (c 4).toNat (C 5) (-1)) j < m 5 := by
            have s1 : gbB (c 4).toNat (C 5) (-1) j = true := by unfold gbB; exact decide_eq_true ⟨by omega, y⟩
            have s2 := cnt_S (p := gbB (c 4).toNat (C 5) (-1)) (n := j)
            rw [s1, if_pos rfl] at s2
            have s3 := cnt_mono (p := gbB (c 4).toNat (C 5) (-1)) (show j + 1 ≤ F' by omega)
            omega
          rw [updI_n w, updI_n w, gb j (by omega), eN _ (by omega) (by omega) (by omega), eN _ (by omega) (by omega) (by omega)]
          exact f7 j hj d y
    · have e5 : gathersM m b v t 5 = m 5 := by unfold gathersM; rw [if_neg hb0, updI_n (by omega), updI_n (by omega), updI_n (by omega), updI_n (by omega)]
      have e4 : gathersM m b v t 4 = m 4 + 1 := by unfold gathersM; rw [if_neg hb0, updI_s]
      have eA : gathersM m b v t (2328 + 3 * m 4).toNat = b := by unfold gathersM; rw [if_neg hb0, updI_n (by omega), updI_n (by omega), updI_n (by omega), updI_s]
      have eB : gathersM m b v t (2329 + 3 * m 4).toNat = v := by unfold gathersM; rw [if_neg hb0, updI_n (by omega), updI_n (by omega), updI_s]
      have eC : gathersM m b v t (2330 + 3 * m 4).toNat = t := by unfold gathersM; rw [if_neg hb0, updI_n (by omega), updI_s]
      have eN : ∀ q, 2328 ≤ q → ¬ q = (2328 + 3 * m 4).toNat → ¬ q = (2329 + 3 * m 4).toNat → ¬ q = (2330 + 3 * m 4).toNat → gathersM m b v t q = m q := fun q a y z w => by
        unfold gathersM; rw [if_neg hb0, updI_n (by omega), updI_n w, updI_n z, updI_n y]
      have q1 : faB (updI (C 5) F' b) F' = true := by unfold faB; rw [updI_s]; exact decide_eq_true (by omega)
      have q2 : gbB (c 4).toNat (updI (C 5) F' b) (-1) F' = false := by unfold gbB; rw [updI_s]; exact decide_eq_false (fun w => by omega)
      refine ⟨⟨by omega, by omega, by omega⟩, by omega, ⟨f3.1, by omega⟩, ?_, fun j a d => ?_, ?_, fun j a d y => ?_⟩
      · rw [cnt_S, q1, fa F' (Nat.le_refl _), e4, if_pos rfl]; omega
      · by_cases w : j = F'
        · subst w
          rw [updI_s, updI_s, updI_s, fa j (Nat.le_refl _), ← f4]
          exact ⟨by rw [show 2328 + 3 * (m 4).toNat = (2328 + 3 * m 4).toNat by omega]; exact eA, by rw [show 2329 + 3 * (m 4).toNat = (2329 + 3 * m 4).toNat by omega]; exact eB, by rw [show 2330 + 3 * (m 4).toNat = (2330 + 3 * m 4).toNat by omega]; exact eC⟩
        · have hj : j < F' := by omega
          have r := cnt_r (faB (C 5)) j
          rw [updI_n w] at d ⊢
          have lt : cnt (faB (C 5)) j < m 4 := by
            have s1 : faB (C 5) j = true := by unfold faB; exact decide_eq_true d
            have s2 := cnt_S (p := faB (C 5)) (n := j)
            rw [s1, if_pos rfl] at s2
            have s3 := cnt_mono (p := faB (C 5)) (show j + 1 ≤ F' by omega)
            omega
          rw [updI_n w, updI_n w, fa j (by omega), eN _ (by omega) (by omega) (by omega) (by omega), eN _ (by omega) (by omega) (by omega) (by omega), eN _ (by omega) (by omega) (by omega) (by omega)]
          exact f5 j hj d
      · rw [cnt_S, q2, gb F' (Nat.le_refl _), e5, if_neg (by decide)]; omega
      · have hj : j < F' := by
          by_cases w : j = F'
          · subst w; rw [updI_s] at y; omega
          · omega
        have r := cnt_r (gbB (c 4).toNat (C 5) (-1)) j
        rw [updI_n (by omega)] at y
        rw [updI_n (by omega), updI_n (by omega), gb j (by omega), eN _ (by omega) (by omega) (by omega) (by omega), eN _ (by omega) (by omega) (by omega) (by omega)]
        exact f7 j hj d y
  · exact crG_c G k1.2 (um 1 (by omega) (by omega) (by omega)) (fun u hu => ⟨um _ (by omega) (by omega) (by omega), um _ (by omega) (by omega) (by omega)⟩) (fun _ _ => rfl)
  · unfold gaC
    exact updI_r (updI_r (updI_r R.1 ⟨by omega, by omega⟩) ⟨by omega, by omega⟩) ⟨by omega, by omega⟩
  · unfold gaD
    exact updC_r (updC_r (updC_r R.2 (updI_r (R.2 3) hv)) (updI_r (R.2 4) ⟨by omega, by omega⟩)) (updI_r (R.2 5) ⟨by omega, by omega⟩)
theorem CRx.one (h : CRx 0 m pool S c C nm g) : CRx 1 m pool S c C nm g := by
  obtain ⟨n, T, A, K, L, e, ⟨F, f⟩, G, R⟩ := h
  obtain ⟨f1, f2, f3⟩ := f
  exact ⟨n, T, A, K, L, e, ⟨F, f1, by omega, f3⟩, G, R⟩
end CHG2
end mg_9y
section mg_9z
/-! ===== what comes, what is moved, a scope's end ===== -/
section CHG3
variable {x : Int} {m pool c : Nat → Int} {S : Nat → Option mO} {C : Nat → Nat → Int} {nm : Nat → Int64} {g : Nat → Option Nat}
theorem nmR_take {rc : Nat → Int} {N fr to : Nat} {o p e : Int} (h7 : to - fr ≤ 7) (hft : fr ≤ to) : nmR (takesM m rc N o fr to p e) N = nmY rc fr to := by
  unfold nmR nmY nmN
  rw [takesM_ln, show ((to : Int) - fr).toNat = to - fr by omega]
  have e1 : cdN (nmG (takesM m rc N o fr to p e) (265 + 14 * N) (265 + 14 * N + (to - fr))) 7 = cdN (nmG rc fr to) 7 := cdN_c 7 (fun j hj => by
    unfold nmG
    by_cases w : fr + j < to
    · rw [if_pos (by omega), if_pos w, takesM_nm h7 hj, if_pos (by omega)]
    · rw [if_neg (by omega), if_neg w])
  rw [e1]
/-- a thing is TAKEN -/
theorem CR_take (h : CRx 0 m pool S c C nm g) (hok : mOk m) {rc : Nat → Int} {N fr to P E Z : Nat} {o : Int} {inn : Option Nat} (hN : m 1 = (N : Int)) (h9 : N < 90) (hn : 1 ≤ to - fr ∧ to - fr ≤ 7) (hft : fr ≤ to) (hl : ∀ j, fr ≤ j → j < to → isLt (rc j)) (ho : InR o) (hx : tpO S pool inn P E) (hZ : c 10 = (Z : Int)) :
    CRx 0 (takesM m rc N o fr to P E) pool S (adE (adC c N o) Z) (updC C 2 (updI (C 2) Z (N : Int))) (updL nm N (nmY rc fr to)) (updO g (2 * N) inn) := by
  obtain ⟨n, T, A, K, L, ⟨Z', e⟩, ⟨F, f⟩, G, R⟩ := h
  have k0 := hok.2.1
  have k1 := hok.2.2.1
  have k2 := hok.2.2.2.1
  have k3 := hok.2.2.2.2.1
  have hZ' : Z' = Z := by have := e.1; omega
  subst hZ'
  have um : ∀ q, ¬ q = 1 → ¬ q = 6 → (q < 258 + 14 * N ∨ 272 + 14 * N ≤ q) → takesM m rc N o fr to P E q = m q := fun q a b d => takesM_n hn.2 a b d
  have uc : ∀ q, ¬ q = 0 → ¬ q = 10 → (q < 32 + 3 * N ∨ 35 + 3 * N ≤ q) → adE (adC c N o) Z' q = c q := fun q a b d => by
    unfold adE adC
    rw [updI_n (by omega), updI_n (by omega), updI_n (by omega), updI_n (by omega), updI_n (by omega)]
  have c0 : adE (adC c N o) Z' 0 = (N : Int) + 1 := by unfold adE adC; rw [updI_n (by omega), updI_n (by omega), updI_n (by omega), updI_n (by omega), updI_s]
  have c10 : adE (adC c N o) Z' 10 = (Z' : Int) + 1 := by unfold adE; rw [updI_s]
  have cst : adE (adC c N o) Z' (32 + 3 * N) = 0 := by unfold adE adC; rw [updI_n (by omega), updI_n (by omega), updI_n (by omega), updI_s]
  have cow : adE (adC c N o) Z' (33 + 3 * N) = o := by unfold adE adC; rw [updI_n (by omega), updI_n (by omega), updI_s]
  have cpl : adE (adC c N o) Z' (34 + 3 * N) = -5 := by unfold adE adC; rw [updI_n (by omega), updI_s]
  have m1 : takesM m rc N o fr to P E 1 = (N : Int) + 1 := takesM_1
  have m6 : takesM m rc N o fr to P E 6 = m 6 + 1 := takesM_6
  have er := e.2.1
  have fb := f.2.1
  refine ⟨?_, ?_, ?_, ?_, ?_, ⟨Z' + 1, ?_⟩, ⟨F, ?_⟩, ?_, ?_, ?_⟩
  · unfold crN
    rw [um 0 (by omega) (by omega) (by omega), m1, um 2 (by omega) (by omega) (by omega), um 3 (by omega) (by omega) (by omega), c0, uc 1 (by omega) (by omega) (by omega), uc 2 (by omega) (by omega) (by omega), uc 8 (by omega) (by omega) (by omega), uc 9 (by omega) (by omega) (by omega)]
    exact ⟨rfl, n.2⟩
  · intro u hu
    rw [m1] at hu
    by_cases w : u = N
    · subst w
      rw [cst, cow, cpl, takesM_st, takesM_ow, takesM_pl, nmR_take hn.2 hft]
      refine ⟨by decide, rfl, rfl, by unfold updL; rw [if_pos rfl], ?_⟩
      unfold nmOk
      rw [takesM_ln]
      refine ⟨by omega, fun j hj => ?_⟩
      rw [takesM_nm hn.2 (by omega), if_pos (by omega)]
      exact hl _ (by omega) (by omega)
    · obtain ⟨t1, t2, t3, t4, t5⟩ := T u (by omega)
      have q4 : ∀ q, 258 + 14 * u ≤ q → q < 272 + 14 * u → takesM m rc N o fr to P E q = m q := fun q a b => um q (by omega) (by omega) (by omega)
      rw [uc _ (by omega) (by omega) (by omega), uc _ (by omega) (by omega) (by omega), uc _ (by omega) (by omega) (by omega), q4 _ (by omega) (by omega), q4 _ (by omega) (by omega), q4 _ (by omega) (by omega)]
      refine ⟨t1, t2, t3, ?_, nmOk_c (q4 _ (by omega) (by omega)) (fun j hj => q4 _ (by omega) (by omega)) t5⟩
      rw [show updL nm N (nmY rc fr to) u = nm u by unfold updL; rw [if_neg w]]
      exact t4.trans (nmR_c (q4 _ (by omega) (by omega)) t5.1.2 (fun j hj => q4 _ (by omega) (by omega))).symm
  · exact crS_c A k0.2 (um 0 (by omega) (by omega) (by omega)) (fun q a b => um q (by omega) (by omega) (by omega)) (fun q a b => uc q (by omega) (by omega) (by omega))
  · exact crK_c K (um 3 (by omega) (by omega) (by omega)) (fun q a b => um q (by omega) (by omega) (by omega)) (fun q a => uc q (by omega) (by omega) (by omega)) k3.2
  · exact crL_c L k2.2 (um 2 (by omega) (by omega) (by omega)) (fun q a b => um q (by omega) (by omega) (by omega)) (fun q a b => um q (by omega) (by omega) (by omega)) (updC_n (by decide)) (updC_n (by decide))
  · rw [updC_s]
    have sN : stampI (takesM m rc N o fr to P E) (N : Int) = m 6 + 1 := by rw [stampI_t (by omega)]; exact takesM_sp
    have so : ∀ e', nodP m e' → stampI (takesM m rc N o fr to P E) e' = stampI m e' := fun e' he => stampI_c k1.2 (fun u hu => um _ (by omega) (by omega) (by omega)) (fun u hu hb => um _ (by omega) (by omega) (by omega)) he
    refine crE_o.mpr ⟨by rw [c10]; omega, by rw [m1, um 0 (by omega) (by omega) (by omega)]; omega, ?_⟩
    refine ordE_c (ordE_a (crE_o.mp e).2.2 (st' := stampI (takesM m rc N o fr to P E)) (e1 := (N : Int)) (top' := m 6 + 1) so (by rw [sN]; omega) (by rw [sN]; omega)) (fun e' => ?_) (fun _ _ => rfl) (by rw [m6]; exact Int.le_refl _)
    unfold nodP
    rw [um 0 (by omega) (by omega) (by omega), m1]
    constructor
    · rintro (⟨u, a, b, d⟩ | ⟨u, a, d1, b, d⟩)
      · by_cases w : u = N
        · subst w; exact Or.inr a
        · rw [um _ (by omega) (by omega) (by omega)] at d
          exact Or.inl (Or.inl ⟨u, a, by omega, d⟩)
      · rw [um _ (by omega) (by omega) (by omega)] at d
        exact Or.inl (Or.inr ⟨u, a, d1, b, d⟩)
    · rintro ((⟨u, a, b, d⟩ | ⟨u, a, d1, b, d⟩) | w)
      · exact Or.inl ⟨u, a, by omega, by rw [um _ (by omega) (by omega) (by omega)]; exact d⟩
      · exact Or.inr ⟨u, a, d1, b, by rw [um _ (by omega) (by omega) (by omega)]; exact d⟩
      · exact Or.inl ⟨N, w, by omega, by rw [takesM_st]; decide⟩
  · exact crF_c f (by omega) (uc 11 (by omega) (by omega) (by omega)) (uc 12 (by omega) (by omega) (by omega)) (uc 13 (by omega) (by omega) (by omega)) (uc 4 (by omega) (by omega) (by omega)) (um 2 (by omega) (by omega) (by omega)) (um 4 (by omega) (by omega) (by omega)) (um 5 (by omega) (by omega) (by omega)) (fun q a b => um q (by omega) (by omega) (by omega)) (updC_n (by decide)) (updC_n (by decide)) (updC_n (by decide))
  · intro u hu
    rw [m1] at hu
    by_cases w : u = N
    · subst w
      exact ⟨P, E, takesM_p, takesM_e, by rw [updO_s]; exact hx⟩
    · rw [um _ (by omega) (by omega) (by omega), um _ (by omega) (by omega) (by omega), updO_n (by omega)]
      exact G u (by omega)
  · unfold adE adC
    exact updI_r (updI_r (updI_r (updI_r (updI_r R.1 ⟨by omega, by omega⟩) (by decide)) ho) (by decide)) ⟨by omega, by omega⟩
  · exact updC_r R.2 (updI_r (R.2 2) ⟨by omega, by omega⟩)
/-- a thing is MOVED -/
theorem CR_move (h : CRx 0 m pool S c C nm g) (hok : mOk m) {t Z : Nat} {s : Int} (ht : (t : Int) < m 1) (h0 : m (258 + 14 * t) = 0) (hs : InR s) (hZ : c 10 = (Z : Int)) : CRx 0 (movesM m t s) pool S (mvC c t s (cnt (notB (t : Int) (C 2)) Z)) (mvD C Z t) nm g := by
  obtain ⟨n, T, A, K, L, ⟨Z', e⟩, ⟨F, f⟩, G, R⟩ := h
  have k0 := hok.2.1
  have k1 := hok.2.2.1
  have k2 := hok.2.2.2.1
  have k3 := hok.2.2.2.2.1
  have hZ' : Z' = Z := by have := e.1; omega
  subst hZ'
  obtain ⟨d1, d2, d3⟩ := ordE_d (crE_o.mp e).2.2 (e0 := (t : Int)) ((nodP_t ht k1.2).mpr (by rw [h0]; decide))
  have um : ∀ q, ¬ q = 259 + 14 * t → ¬ q = 6 → ¬ q = 260 + 14 * t → movesM m t s q = m q := fun q a b d => by
    unfold movesM; rw [updI_n d, updI_n b, updI_n a]
  have mow : movesM m t s (259 + 14 * t) = s := by unfold movesM; rw [updI_n (by omega), updI_n (by omega), updI_s]
  have m6 : movesM m t s 6 = m 6 + 1 := by unfold movesM; rw [updI_n (by omega), updI_s]
  have msp : movesM m t s (260 + 14 * t) = m 6 + 1 := by unfold movesM; rw [updI_s]
  obtain ⟨k', hk'⟩ : ∃ k', cnt (notB (t : Int) (C 2)) Z' = k' := ⟨_, rfl⟩
  have D2 : mvD C Z' t 2 = updI (drA (t : Int) (C 2) Z') (Z' - 1) (t : Int) := by
    unfold mvD; rw [updC_s, hk', show k'.toNat = Z' - 1 by omega]
  have Dn : ∀ k, ¬ k = 2 → mvD C Z' t k = C k := fun k a => by unfold mvD; rw [updC_n a, updC_n a]
  rw [hk'] at d1 ⊢
  have uc : ∀ q, ¬ q = 33 + 3 * t → ¬ q = 10 → mvC c t s k' q = c q := fun q a b => by
    unfold mvC; rw [updI_n b, updI_n b, updI_n a]
  have cow : mvC c t s k' (33 + 3 * t) = s := by unfold mvC; rw [updI_n (by omega), updI_n (by omega), updI_s]
  have c10 : mvC c t s k' 10 = k' + 1 := by unfold mvC; rw [updI_s]
  have er := e.2.1
  have fb := f.2.1
  refine ⟨?_, ?_, ?_, ?_, ?_, ⟨Z', ?_⟩, ⟨F, ?_⟩, ?_, ?_, ?_⟩
  · unfold crN
    rw [um 0 (by omega) (by omega) (by omega), um 1 (by omega) (by omega) (by omega), um 2 (by omega) (by omega) (by omega), um 3 (by omega) (by omega) (by omega), uc 0 (by omega) (by omega), uc 1 (by omega) (by omega), uc 2 (by omega) (by omega), uc 8 (by omega) (by omega), uc 9 (by omega) (by omega)]
    exact n
  · intro u hu
    rw [um 1 (by omega) (by omega) (by omega)] at hu
    obtain ⟨t1, t2, t3, t4, t5⟩ := T u hu
    have q4 : ∀ q, 261 + 14 * u ≤ q → q < 272 + 14 * u → movesM m t s q = m q := fun q a b => um q (by omega) (by omega) (by omega)
    rw [uc (32 + 3 * u) (by omega) (by omega), uc (34 + 3 * u) (by omega) (by omega), um (258 + 14 * u) (by omega) (by omega) (by omega), um (264 + 14 * u) (by omega) (by omega) (by omega)]
    refine ⟨t1, ?_, t3, t4.trans (nmR_c (q4 _ (by omega) (by omega)) t5.1.2 (fun j hj => q4 _ (by omega) (by omega))).symm, nmOk_c (q4 _ (by omega) (by omega)) (fun j hj => q4 _ (by omega) (by omega)) t5⟩
    by_cases w : u = t
    · subst w; rw [cow, mow]
    · rw [uc _ (by omega) (by omega), um _ (by omega) (by omega) (by omega)]; exact t2
  · exact crS_c A k0.2 (um 0 (by omega) (by omega) (by omega)) (fun q a b => um q (by omega) (by omega) (by omega)) (fun q a b => uc q (by omega) (by omega))
  · exact crK_c K (um 3 (by omega) (by omega) (by omega)) (fun q a b => um q (by omega) (by omega) (by omega)) (fun q a => uc q (by omega) (by omega)) k3.2
  · exact crL_c L k2.2 (um 2 (by omega) (by omega) (by omega)) (fun q a b => um q (by omega) (by omega) (by omega)) (fun q a b => um q (by omega) (by omega) (by omega)) (Dn 0 (by decide)) (Dn 1 (by decide))
  · rw [D2]
    have sN : stampI (movesM m t s) (t : Int) = m 6 + 1 := by rw [stampI_t (by omega)]; exact msp
    have so : ∀ e', (nodP m e' ∧ ¬ e' = (t : Int)) → stampI (movesM m t s) e' = stampI m e' := fun e' he => by
      obtain ⟨h1, h2⟩ := he
      rcases h1 with ⟨u, rfl, b, -⟩ | ⟨a, rfl, d, b, -⟩
      · rw [stampI_t (by omega), stampI_t (by omega)]; exact um _ (by omega) (by omega) (by omega)
      · rw [stampI_s, stampI_s]; exact um _ (by omega) (by omega) (by omega)
    refine crE_o.mpr ⟨by rw [c10]; omega, by rw [um 1 (by omega) (by omega) (by omega), um 0 (by omega) (by omega) (by omega)]; omega, ?_⟩
    have oa := ordE_a d3 (st' := stampI (movesM m t s)) (e1 := (t : Int)) (top' := m 6 + 1) so (by rw [sN]; omega) (by rw [sN]; omega)
    rw [show Z' - 1 + 1 = Z' by omega] at oa
    refine ordE_c oa (fun e' => ?_) (fun _ _ => rfl) (by rw [m6]; exact Int.le_refl _)
    have nd : nodP (movesM m t s) e' ↔ nodP m e' := nodP_c (um 0 (by omega) (by omega) (by omega)) (um 1 (by omega) (by omega) (by omega)) (fun u hu => by rw [um _ (by omega) (by omega) (by omega)]) (fun u hu hb => by rw [um _ (by omega) (by omega) (by omega)])
    rw [nd]
    constructor
    · intro h1
      by_cases w : e' = (t : Int)
      · exact Or.inr w
      · exact Or.inl ⟨h1, w⟩
    · rintro (⟨h1, -⟩ | rfl)
      · exact h1
      · exact (nodP_t ht k1.2).mpr (by rw [h0]; decide)
  · exact crF_c f (by omega) (uc 11 (by omega) (by omega)) (uc 12 (by omega) (by omega)) (uc 13 (by omega) (by omega)) (uc 4 (by omega) (by omega)) (um 2 (by omega) (by omega) (by omega)) (um 4 (by omega) (by omega) (by omega)) (um 5 (by omega) (by omega) (by omega)) (fun q a b => um q (by omega) (by omega) (by omega)) (Dn 3 (by decide)) (Dn 4 (by decide)) (Dn 5 (by decide))
  · exact crG_c G k1.2 (um 1 (by omega) (by omega) (by omega)) (fun u hu => ⟨um _ (by omega) (by omega) (by omega), um _ (by omega) (by omega) (by omega)⟩) (fun _ _ => rfl)
  · unfold mvC
    exact updI_r (updI_r (updI_r R.1 hs) ⟨by omega, by omega⟩) ⟨by omega, by omega⟩
  · unfold mvD
    exact updC_r (updC_r R.2 (drA_r (R.2 2) Z')) (updI_r (drA_r (R.2 2) Z') ⟨by omega, by omega⟩)
/-- a scope is SHUT -/
theorem CR_sce (h : CRx 0 m pool S c C nm g) (hok : mOk m) {a Z : Nat} (ha : (a : Int) < m 0) (h1 : m (18 + 4 * a) = 1) (hZ : c 10 = (Z : Int)) : CRx 0 (updI m (18 + 4 * a) (if a = 0 then 0 else 2)) pool S (gsC c a (cnt (notB (100 + (a : Int)) (C 2)) Z)) (updC C 2 (drA (100 + (a : Int)) (C 2) Z)) nm g := by
  obtain ⟨n, T, A, K, L, ⟨Z', e⟩, ⟨F, f⟩, G, R⟩ := h
  have k0 := hok.2.1
  have k1 := hok.2.2.1
  have k2 := hok.2.2.2.1
  have k3 := hok.2.2.2.2.1
  have hZ' : Z' = Z := by have := e.1; omega
  subst hZ'
  have um : ∀ q, ¬ q = 18 + 4 * a → updI m (18 + 4 * a) (if a = 0 then 0 else 2) q = m q := fun q w => updI_n w
  obtain ⟨k', hk'⟩ : ∃ k', cnt (notB (100 + (a : Int)) (C 2)) Z' = k' := ⟨_, rfl⟩
  have uc : ∀ q, ¬ q = 304 + 3 * a → ¬ q = 10 → gsC c a k' q = c q := fun q u w => by unfold gsC; rw [updI_n w, updI_n u]
  have cst : gsC c a k' (304 + 3 * a) = if a = 0 then 0 else 1 := by unfold gsC; rw [updI_n (by omega), updI_s]
  have c10 : gsC c a k' 10 = k' := by unfold gsC; rw [updI_s]
  have er := e.2.1
  have fb := f.2.1
  have kr := cnt_r (notB (100 + (a : Int)) (C 2)) Z'
  have ent : ∃ Z2 : Nat, k' = Z2 ∧ (Z2 : Int) ≤ Z' ∧ ordE (nodP (updI m (18 + 4 * a) (if a = 0 then 0 else 2))) (stampI (updI m (18 + 4 * a) (if a = 0 then 0 else 2))) (m 6) (drA (100 + (a : Int)) (C 2) Z') Z2 := by
    have so : ∀ e', nodP m e' → stampI (updI m (18 + 4 * a) (if a = 0 then 0 else 2)) e' = stampI m e' := fun e' he => stampI_c k1.2 (fun u hu => um _ (by omega)) (fun u hu hb => um _ (by omega)) he
    by_cases z : a = 0
    · subst z
      have nn : ∀ j, j < Z' → ¬ C 2 j = 100 + ((0 : Nat) : Int) := fun j hj w => by
        have := e.2.2.1 j hj
        rw [w] at this
        have := (nodP_s (a := 0) k1.2).mp this
        omega
      obtain ⟨x1, x2⟩ := dr_lo (v := 100 + ((0 : Nat) : Int)) (f := C 2) Z' nn
      refine ⟨Z', by rw [← hk']; exact x1, Int.le_refl _, ?_⟩
      have fe : drA (100 + ((0 : Nat) : Int)) (C 2) Z' = C 2 := funext x2
      rw [fe]
      refine ordE_c (crE_o.mp e).2.2 (fun e' => nodP_c (um 0 (by omega)) (um 1 (by omega)) (fun u hu => by rw [um _ (by omega)]) (fun u hu hb => by rw [um _ (by omega)])) so (Int.le_refl _)
    · obtain ⟨d1, d2, d3⟩ := ordE_d (crE_o.mp e).2.2 (e0 := 100 + (a : Int)) ((nodP_s k1.2).mpr ⟨by omega, ha, by rw [h1]; decide⟩)
      refine ⟨Z' - 1, by omega, by omega, ordE_c d3 (fun e' => ?_) (fun e' he => so e' he.1) (Int.le_refl _)⟩
      unfold nodP
      rw [um 0 (by omega), um 1 (by omega)]
      constructor
      · rintro (⟨u, p, b, d⟩ | ⟨u, p, q, b, d⟩)
        · rw [um _ (by omega)] at d
          exact ⟨Or.inl ⟨u, p, b, d⟩, by omega⟩
        · by_cases w : u = a
          · subst w; rw [updI_s, if_neg z] at d; exact absurd rfl d
          · rw [um _ (by omega)] at d
            exact ⟨Or.inr ⟨u, p, q, b, d⟩, by omega⟩
      · rintro ⟨⟨u, p, b, d⟩ | ⟨u, p, q, b, d⟩, w⟩
        · exact Or.inl ⟨u, p, b, by rw [um _ (by omega)]; exact d⟩
        · exact Or.inr ⟨u, p, q, b, by rw [um _ (by omega)]; exact d⟩
  obtain ⟨Z2, z1, z2, z3⟩ := ent
  rw [hk']
  refine ⟨?_, ?_, ?_, ?_, ?_, ⟨Z2, ?_⟩, ⟨F, ?_⟩, ?_, ?_, ?_⟩
  · unfold crN
    rw [um 0 (by omega), um 1 (by omega), um 2 (by omega), um 3 (by omega), uc 0 (by omega) (by omega), uc 1 (by omega) (by omega), uc 2 (by omega) (by omega), uc 8 (by omega) (by omega), uc 9 (by omega) (by omega)]
    exact n
  · exact crT_c T k1.2 (um 1 (by omega)) (fun q w y => um q (by omega)) (fun q w y => uc q (by omega) (by omega)) rfl
  · intro u hu
    rw [um 0 (by omega)] at hu
    obtain ⟨t1, t2, t3⟩ := A u hu
    rw [uc (305 + 3 * u) (by omega) (by omega), uc (306 + 3 * u) (by omega) (by omega), um (19 + 4 * u) (by omega), um (21 + 4 * u) (by omega)]
    refine ⟨?_, t2, t3⟩
    by_cases w : u = a
    · subst w
      rw [cst, updI_s]
      by_cases z : u = 0
      · rw [if_pos z, if_pos z]; decide
      · rw [if_neg z, if_neg z]; decide
    · rw [uc _ (by omega) (by omega), um _ (by omega)]; exact t1
  · exact crK_c K (um 3 (by omega)) (fun q w y => um q (by omega)) (fun q w => uc q (by omega) (by omega)) k3.2
  · exact crL_c L k2.2 (um 2 (by omega)) (fun q w y => um q (by omega)) (fun q w y => um q (by omega)) (updC_n (by decide)) (updC_n (by decide))
  · rw [updC_s]
    exact crE_o.mpr ⟨by rw [c10]; exact z1, by rw [um 1 (by omega), um 0 (by omega)]; omega, by rw [um 6 (by omega)]; exact z3⟩
  · exact crF_c f (by omega) (uc 11 (by omega) (by omega)) (uc 12 (by omega) (by omega)) (uc 13 (by omega) (by omega)) (uc 4 (by omega) (by omega)) (um 2 (by omega)) (um 4 (by omega)) (um 5 (by omega)) (fun q w y => um q (by omega)) (updC_n (by decide)) (updC_n (by decide)) (updC_n (by decide))
  · exact crG_c G k1.2 (um 1 (by omega)) (fun u hu => ⟨um _ (by omega), um _ (by omega)⟩) (fun _ _ => rfl)
  · unfold gsC
    exact updI_r (updI_r R.1 (by split <;> decide)) ⟨by omega, by omega⟩
  · exact updC_r R.2 (drA_r (R.2 2) Z')
/-- a scope comes -/
theorem CR_opens (h : CRx 0 m pool S c C nm g) (hok : mOk m) {N p Z : Nat} {t : Int} (hN : m 0 = (N : Int)) (h9 : N < 60) (hN1 : 1 ≤ N) (hp : p < 60) (ht : InR t) (hZ : c 10 = (Z : Int)) : CRx 0 (opensM m N p t) pool S (adE (asC c N (p : Int) t) Z) (updC C 2 (updI (C 2) Z (100 + (N : Int)))) nm g := by
  obtain ⟨n, T, A, K, L, ⟨Z', e⟩, ⟨F, f⟩, G, R⟩ := h
  have k0 := hok.2.1
  have k1 := hok.2.2.1
  have k2 := hok.2.2.2.1
  have k3 := hok.2.2.2.2.1
  have hZ' : Z' = Z := by have := e.1; omega
  subst hZ'
  obtain ⟨o1, o2, o3, o4, o5, o6, o7⟩ := opensM_at (m := m) (C := N) (p := (p : Int)) (t := t)
  have um : ∀ q, ¬ q = 0 → ¬ q = 6 → (q < 18 + 4 * N ∨ 22 + 4 * N ≤ q) → opensM m N p t q = m q := o7
  have uc : ∀ q, ¬ q = 1 → ¬ q = 10 → (q < 304 + 3 * N ∨ 307 + 3 * N ≤ q) → adE (asC c N (p : Int) t) Z' q = c q := fun q a b d => by
    unfold adE asC
    rw [updI_n (by omega), updI_n (by omega), updI_n (by omega), updI_n (by omega), updI_n (by omega)]
  have c1 : adE (asC c N (p : Int) t) Z' 1 = (N : Int) + 1 := by unfold adE asC; rw [updI_n (by omega), updI_n (by omega), updI_n (by omega), updI_n (by omega), updI_s]
  have c10 : adE (asC c N (p : Int) t) Z' 10 = (Z' : Int) + 1 := by unfold adE; rw [updI_s]
  have cs : adE (asC c N (p : Int) t) Z' (304 + 3 * N) = 0 := by unfold adE asC; rw [updI_n (by omega), updI_n (by omega), updI_n (by omega), updI_s]
  have cp : adE (asC c N (p : Int) t) Z' (305 + 3 * N) = p := by unfold adE asC; rw [updI_n (by omega), updI_n (by omega), updI_s]
  have ck : adE (asC c N (p : Int) t) Z' (306 + 3 * N) = t := by unfold adE asC; rw [updI_n (by omega), updI_s]
  have er := e.2.1
  have fb := f.2.1
  refine ⟨?_, ?_, ?_, ?_, ?_, ⟨Z' + 1, ?_⟩, ⟨F, ?_⟩, ?_, ?_, ?_⟩
  · unfold crN
    rw [o1, um 1 (by omega) (by omega) (by omega), um 2 (by omega) (by omega) (by omega), um 3 (by omega) (by omega) (by omega), uc 0 (by omega) (by omega) (by omega), c1, uc 2 (by omega) (by omega) (by omega), uc 8 (by omega) (by omega) (by omega), uc 9 (by omega) (by omega) (by omega)]
    exact ⟨n.1, rfl, n.2.2⟩
  · exact crT_c T k1.2 (um 1 (by omega) (by omega) (by omega)) (fun q w y => um q (by omega) (by omega) (by omega)) (fun q w y => uc q (by omega) (by omega) (by omega)) rfl
  · intro u hu
    rw [o1] at hu
    by_cases w : u = N
    · subst w
      rw [cs, cp, ck, o2, o3, o5]; exact ⟨by decide, rfl, rfl⟩
    · rw [uc _ (by omega) (by omega) (by omega), uc _ (by omega) (by omega) (by omega), uc _ (by omega) (by omega) (by omega), um _ (by omega) (by omega) (by omega), um _ (by omega) (by omega) (by omega), um _ (by omega) (by omega) (by omega)]
      exact A u (by omega)
  · exact crK_c K (um 3 (by omega) (by omega) (by omega)) (fun q w y => um q (by omega) (by omega) (by omega)) (fun q w => uc q (by omega) (by omega) (by omega)) k3.2
  · exact crL_c L k2.2 (um 2 (by omega) (by omega) (by omega)) (fun q w y => um q (by omega) (by omega) (by omega)) (fun q w y => um q (by omega) (by omega) (by omega)) (updC_n (by decide)) (updC_n (by decide))
  · rw [updC_s]
    have sN : stampI (opensM m N p t) (100 + (N : Int)) = m 6 + 1 := by rw [stampI_s]; exact o4
    have so : ∀ e', nodP m e' → stampI (opensM m N p t) e' = stampI m e' := fun e' he => stampI_c k1.2 (fun u hu => um _ (by omega) (by omega) (by omega)) (fun u hu hb => um _ (by omega) (by omega) (by omega)) he
    refine crE_o.mpr ⟨by rw [c10]; omega, by rw [o1, um 1 (by omega) (by omega) (by omega)]; omega, ?_⟩
    refine ordE_c (ordE_a (crE_o.mp e).2.2 (st' := stampI (opensM m N p t)) (e1 := 100 + (N : Int)) (top' := m 6 + 1) so (by rw [sN]; omega) (by rw [sN]; omega)) (fun e' => ?_) (fun _ _ => rfl) (by rw [o6]; exact Int.le_refl _)
    unfold nodP
    rw [um 1 (by omega) (by omega) (by omega), o1]
    constructor
    · rintro (⟨u, a, b, d⟩ | ⟨u, a, d1, b, d⟩)
      · rw [um _ (by omega) (by omega) (by omega)] at d
        exact Or.inl (Or.inl ⟨u, a, b, d⟩)
      · by_cases w : u = N
        · subst w; exact Or.inr a
        · rw [um _ (by omega) (by omega) (by omega)] at d
          exact Or.inl (Or.inr ⟨u, a, d1, by omega, d⟩)
    · rintro ((⟨u, a, b, d⟩ | ⟨u, a, d1, b, d⟩) | w)
      · exact Or.inl ⟨u, a, b, by rw [um _ (by omega) (by omega) (by omega)]; exact d⟩
      · exact Or.inr ⟨u, a, d1, by omega, by rw [um _ (by omega) (by omega) (by omega)]; exact d⟩
      · exact Or.inr ⟨N, w, hN1, by omega, by rw [o2]; decide⟩
  · exact crF_c f (by omega) (uc 11 (by omega) (by omega) (by omega)) (uc 12 (by omega) (by omega) (by omega)) (uc 13 (by omega) (by omega) (by omega)) (uc 4 (by omega) (by omega) (by omega)) (um 2 (by omega) (by omega) (by omega)) (um 4 (by omega) (by omega) (by omega)) (um 5 (by omega) (by omega) (by omega)) (fun q a b => um q (by omega) (by omega) (by omega)) (updC_n (by decide)) (updC_n (by decide)) (updC_n (by decide))
  · exact crG_c G k1.2 (um 1 (by omega) (by omega) (by omega)) (fun u hu => ⟨um _ (by omega) (by omega) (by omega), um _ (by omega) (by omega) (by omega)⟩) (fun _ _ => rfl)
  · unfold adE asC
    exact updI_r (updI_r (updI_r (updI_r (updI_r R.1 ⟨by omega, by omega⟩) (by decide)) ⟨by omega, by omega⟩) ht) ⟨by omega, by omega⟩
  · exact updC_r R.2 (updI_r (R.2 2) ⟨by omega, by omega⟩)
/-- a call begins that gathers -/
theorem CR_call (h : CRx 0 m pool S c C nm g) (hok : mOk m) : CRx 0 (updI m 5 0) pool S (updI c 4 (c 11)) C nm g := by
  obtain ⟨n, T, A, K, L, ⟨Z, e⟩, ⟨F, f⟩, G, R⟩ := h
  have k0 := hok.2.1
  have k1 := hok.2.2.1
  have k2 := hok.2.2.2.1
  have k3 := hok.2.2.2.2.1
  have um : ∀ q, ¬ q = 5 → updI m 5 0 q = m q := fun q w => updI_n w
  have uc : ∀ q, ¬ q = 4 → updI c 4 (c 11) q = c q := fun q w => updI_n w
  refine ⟨?_, ?_, ?_, ?_, ?_, ⟨Z, ?_⟩, ⟨F, ?_⟩, ?_, updI_r R.1 (R.1 11), R.2⟩
  · unfold crN
    rw [um 0 (by omega), um 1 (by omega), um 2 (by omega), um 3 (by omega), uc 0 (by omega), uc 1 (by omega), uc 2 (by omega), uc 8 (by omega), uc 9 (by omega)]
    exact n
  · exact crT_c T k1.2 (um 1 (by omega)) (fun q w y => um q (by omega)) (fun q w y => uc q (by omega)) rfl
  · exact crS_c A k0.2 (um 0 (by omega)) (fun q w y => um q (by omega)) (fun q w y => uc q (by omega))
  · exact crK_c K (um 3 (by omega)) (fun q w y => um q (by omega)) (fun q w => uc q (by omega)) k3.2
  · exact crL_c L k2.2 (um 2 (by omega)) (fun q w y => um q (by omega)) (fun q w y => um q (by omega)) rfl rfl
  · exact crE_c e k1.2 (uc 10 (by omega)) (um 0 (by omega)) (um 1 (by omega)) (um 6 (by omega)) (fun u hu => by rw [um _ (by omega), um _ (by omega)]; exact ⟨Iff.rfl, rfl⟩) (fun u hu hb => by rw [um _ (by omega), um _ (by omega)]; exact ⟨Iff.rfl, rfl⟩)
  · obtain ⟨f1, f2, f3, f4, f5, f6, f7⟩ := f
    unfold crF
    rw [uc 11 (by omega), uc 12 (by omega), uc 13 (by omega), updI_s, updI_s, um 2 (by omega), um 4 (by omega), f1.1]
    refine ⟨⟨rfl, f1.2⟩, f2, ⟨by omega, Int.le_refl _⟩, f4, fun j a b => ?_, ?_, fun j a b => by omega⟩
    · rw [um _ (by omega), um _ (by omega), um _ (by omega)]; exact f5 j a b
    · rw [Int.toNat_natCast, gbB_0]
  · exact crG_c G k1.2 (um 1 (by omega)) (fun u hu => ⟨um _ (by omega), um _ (by omega)⟩) (fun _ _ => rfl)
end CHG3
end mg_9z
section mg_a0
/-! ===== what both sides answer while they work ===== -/
theorem lN_inj {a b : Nat} (ha : a < 2 ^ 63) (hb : b < 2 ^ 63) (h : lN a = lN b) : a = b := by
  have := congrArg Int64.toInt h
  rw [pf_lI ha, pf_lI hb] at this
  omega
theorem nmG_v {sr : Nat → Int} {p e j : Nat} (h : ∀ j, p ≤ j → j < e → isLt (sr j)) : (nmG sr p e j = 0 ↔ e ≤ p + j) ∧ (p + j < e → ((nmG sr p e j : Nat) : Int) = sr (p + j) - 96) := by
  unfold nmG
  by_cases c : p + j < e
  · have := h (p + j) (by omega) c
    unfold isLt at this
    rw [if_pos c]
    constructor
    · constructor <;> intro <;> omega
    · intro; omega
  · rw [if_neg c]
    exact ⟨⟨fun _ => by omega, fun _ => rfl⟩, fun g => absurd g c⟩
/-- names are the same as longs just when they are the same -/
theorem nmY_eq {sr sr' : Nat → Int} {p e p' e' : Nat} (h : ∀ j, p ≤ j → j < e → isLt (sr j)) (h' : ∀ j, p' ≤ j → j < e' → isLt (sr' j)) (l : p ≤ e ∧ e ≤ p + 7) (l' : p' ≤ e' ∧ e' ≤ p' + 7) : nmY sr p e = nmY sr' p' e' ↔ e - p = e' - p' ∧ ∀ j, j < e - p → sr (p + j) = sr' (p' + j) := by
  constructor
  · intro k
    have k1 := lN_inj (by have := nmN_b h; omega) (by have := nmN_b h'; omega) k
    have k2 := cdN_i (nmG_b h) (nmG_b h') 7 k1
    have len : e - p = e' - p' := by
      by_cases a : e - p < e' - p'
      · exfalso
        have g1 := (nmG_v (j := e - p) h).1.mpr (by omega)
        have g2 := (nmG_v (j := e - p) h').1
        rw [k2 (e - p) (by omega)] at g1
        have := g2.mp g1
        omega
      · by_cases b : e' - p' < e - p
        · exfalso
          have g1 := (nmG_v (j := e' - p') h').1.mpr (by omega)
          have g2 := (nmG_v (j := e' - p') h).1
          rw [← k2 (e' - p') (by omega)] at g1
          have := g2.mp g1
          omega
        · omega
    refine ⟨len, fun j hj => ?_⟩
    have g1 := (nmG_v (j := j) h).2 (by omega)
    have g2 := (nmG_v (j := j) h').2 (by omega)
    rw [k2 j (by omega)] at g1
    omega
  · rintro ⟨k1, k2⟩
    unfold nmY nmN
    have e1 : cdN (nmG sr p e) 7 = cdN (nmG sr' p' e') 7 := cdN_c 7 (fun j _ => by
      unfold nmG
      by_cases c : p + j < e
      · rw [if_pos c, if_pos (by omega), k2 j (by omega)]
      · rw [if_neg c, if_neg (by omega)])
    rw [e1]
theorem nmL_iff {m rc : Nat → Int} {t fr : Nat} : ∀ n k, nmL m rc t fr n k = true ↔ ∀ j, k ≤ j → j < k + n → m (265 + 14 * t + (j - fr)) = rc j
  | 0, k => by unfold nmL; exact ⟨fun _ j a b => by omega, fun _ => rfl⟩
  | n + 1, k => by
    unfold nmL
    by_cases c : m (265 + 14 * t + (k - fr)) = rc k
    · rw [if_pos c, nmL_iff n (k + 1)]
      constructor
      · intro h j a b
        by_cases e : j = k
        · subst e; exact c
        · exact h j (by omega) (by omega)
      · intro h j a b
        exact h j (by omega) (by omega)
    · rw [if_neg c]
      constructor
      · intro h; exact absurd h (by decide)
      · intro h; exact absurd (h k (by omega) (by omega)) c
theorem namedB_iff {m rc : Nat → Int} {t fr to : Nat} (hk : nmOk m t) (hl : ∀ j, fr ≤ j → j < to → isLt (rc j)) (l : fr ≤ to ∧ to ≤ fr + 7) : namedB m rc t fr to = true ↔ nmR m t = nmY rc fr to := by
  obtain ⟨⟨n1, n2⟩, n3⟩ := hk
  have key := nmY_eq (sr := m) (sr' := rc) (p := 265 + 14 * t) (e := 265 + 14 * t + (m (261 + 14 * t)).toNat) (p' := fr) (e' := to) (fun j a b => by
    have := n3 (j - (265 + 14 * t)) (by omega)
    rw [show 265 + 14 * t + (j - (265 + 14 * t)) = j by omega] at this
    exact this) hl ⟨by omega, by omega⟩ l
  unfold nmR
  rw [key]
  unfold namedB
  rw [Bool.and_eq_true, decide_eq_true_eq, nmL_iff]
  constructor
  · rintro ⟨a, b⟩
    refine ⟨by omega, fun j hj => ?_⟩
    have := b (fr + j) (by omega) (by omega)
    rw [show fr + j - fr = j by omega] at this
    exact this
  · rintro ⟨a, b⟩
    refine ⟨by omega, fun j x y => ?_⟩
    have := b (j - fr) (by omega)
    rw [show fr + (j - fr) = j by omega] at this
    exact this
/-- the held one of a name -/
theorem hb_hn {m c rc : Nat → Int} {nm : Nat → Int64} {fr to : Nat} (hT : crT m c nm) (hst : ∀ t : Nat, (t : Int) < m 1 → 0 ≤ m (258 + 14 * t) ∧ m (258 + 14 * t) ≤ 2) (hl : ∀ j, fr ≤ j → j < to → isLt (rc j)) (l : fr ≤ to ∧ to ≤ fr + 7) : ∀ n t : Nat, ((t + n : Nat) : Int) ≤ m 1 → hbL m rc fr to n t = hnL c nm (nmY rc fr to) n t
  | 0, t, _ => rfl
  | n + 1, t, h => by
    obtain ⟨t1, -, -, t4, t5⟩ := hT t (by omega)
    have a1 : heldB m t = true ↔ c (32 + 3 * t) = 0 := by
      rw [t1, swT_0 (hst t (by omega))]
      unfold heldB
      exact decide_eq_true_iff
    have a2 : namedB m rc t fr to = true ↔ nm t = nmY rc fr to := by rw [t4]; exact namedB_iff t5 hl l
    unfold hbL hnL
    by_cases k : heldB m t = true ∧ namedB m rc t fr to = true
    · rw [if_pos k, if_pos ⟨a1.mp k.1, a2.mp k.2⟩]
    · rw [if_neg k, if_neg (fun g => k ⟨a1.mpr g.1, a2.mpr g.2⟩)]
      exact hb_hn hT hst hl l n (t + 1) (by omega)
/-! open scopes, ready tasks -/
theorem op_iff {m c : Nat → Int} (hN : c 1 = m 0) (h60 : m 0 ≤ 60) (hS : crS m c) (hst : ∀ a : Nat, (a : Int) < m 0 → 0 ≤ m (18 + 4 * a) ∧ m (18 + 4 * a) ≤ 2) {i : Int} : opP c i ↔ openP m i := by
  unfold opP openP inW
  rw [hN]
  constructor
  · rintro ⟨⟨a, b, d⟩, e⟩
    obtain ⟨s1, -⟩ := hS i.toNat (by omega)
    rw [s1, swT_0 (hst _ (by omega))] at e
    exact ⟨a, by omega, by rw [show (18 + 4 * i).toNat = 18 + 4 * i.toNat by omega]; exact e⟩
  · rintro ⟨a, b, d⟩
    obtain ⟨s1, -⟩ := hS i.toNat (by omega)
    rw [show (18 + 4 * i).toNat = 18 + 4 * i.toNat by omega] at d
    exact ⟨⟨a, by omega, by omega⟩, by rw [s1, swT_0 (hst _ (by omega))]; exact d⟩
theorem rk_iff {m c : Nat → Int} (hN : c 2 = m 3) (h10 : m 3 ≤ 10) (hK : crK m c) {i : Int} (h0 : 0 ≤ i) : (inW c 2 10 i ∧ c (489 + 9 * i.toNat) = 0) ↔ (i ≤ m 3 - 1 ∧ m (1610 + 72 * i).toNat = 0) := by
  unfold inW
  rw [hN]
  constructor
  · rintro ⟨⟨a, b, d⟩, e⟩
    obtain ⟨s1, -⟩ := hK i.toNat (by omega)
    rw [s1] at e
    exact ⟨by omega, by rw [show (1610 + 72 * i).toNat = 1610 + 72 * i.toNat by omega]; exact e⟩
  · rintro ⟨b, d⟩
    obtain ⟨s1, -⟩ := hK i.toNat (by omega)
    rw [show (1610 + 72 * i).toNat = 1610 + 72 * i.toNat by omega] at d
    exact ⟨⟨h0, by omega, by omega⟩, by rw [s1]; exact d⟩
/-! numbers -/
theorem naL_in {sr : Nat → Int} : ∀ (k k' p e : Nat) (v : Int), e ≤ p + k → e ≤ p + k' → p ≤ e → (∀ j, p ≤ j → j < e → dgP (sr j)) → ¬ dgP (sr e) → naL sr k p v = naL sr k' p v
  | 0, 0, _, _, _, _, _, _, _, _ => rfl
  | 0, k' + 1, p, e, v, h1, h2, h3, h4, h5 => by
    have : e = p := by omega
    subst this
    unfold naL
    rw [if_neg h5]
  | k + 1, 0, p, e, v, h1, h2, h3, h4, h5 => by
    have : e = p := by omega
    subst this
    unfold naL
    rw [if_neg h5]
  | k + 1, k' + 1, p, e, v, h1, h2, h3, h4, h5 => by
    unfold naL
    by_cases c : 48 ≤ sr p ∧ sr p ≤ 57
    · rw [if_pos c, if_pos c]
      have : p < e := by
        by_cases q : p = e
        · subst q; exact absurd c h5
        · omega
      exact naL_in k k' (p + 1) e _ (by omega) (by omega) (by omega) (fun j a b => h4 j (by omega) b) h5
    · rw [if_neg c, if_neg c]
theorem stops_len {sr : Nat → Int} : ∀ (n p e : Nat), p ≤ e → (∀ j, p ≤ j → j < e → dgP (sr j)) → stopsBy sr n p → e ≤ p + n
  | 0, p, e, h, hd, hs => by
    by_cases q : p = e
    · omega
    · exfalso; exact hs (hd p (Nat.le_refl _) (by omega))
  | n + 1, p, e, h, hd, hs => by
    by_cases q : p = e
    · omega
    · have := stops_len n (p + 1) e (by omega) (fun j a b => hd j (by omega) b) (hs (hd p (Nat.le_refl _) (by omega)))
      omega
theorem num_v {sr : Nat → Int} {p e k n : Nat} (h : numS sr p e k) (he : ¬ dgP (sr e)) (hd : digR sr p n) : numAt sr n p = naL sr k p 0 := by
  obtain ⟨a, b, c⟩ := h
  have d0 := c p (Nat.le_refl _) a
  have n45 : ¬ sr p = 45 := fun g => by unfold dgP at d0; omega
  obtain ⟨d1, d2⟩ := hd
  rw [if_neg n45] at d2
  have := stops_len n p e (by omega) c d2
  unfold numAt
  rw [if_neg n45]
  exact naL_in (n + 1) k p e 0 (by omega) b (by omega) c he
theorem sgn_v {sr : Nat → Int} {p e n : Nat} (h : sgnS sr p e) (he : ¬ dgP (sr e)) (hd : digR sr p n) : numAt sr n p = sgV sr p := by
  unfold sgV
  rcases h with ⟨h0, a, b, c⟩ | h
  · obtain ⟨d1, d2⟩ := hd
    rw [if_pos h0] at d2
    have := stops_len n (p + 1) e (by omega) c d2
    unfold numAt
    rw [if_pos h0, if_pos h0]
    rw [naL_in (n + 1) 5 (p + 1) e 0 (by omega) b (by omega) c he]
  · have d0 := h.2.2 p (Nat.le_refl _) h.1
    have n45 : ¬ sr p = 45 := fun g => by unfold dgP at d0; omega
    rw [if_neg n45]
    exact num_v h he hd
/-! the last entry that stands -/
def canP (m : Nat → Int) (s e : Int) : Prop := (∃ t : Nat, e = t ∧ (t : Int) < m 1 ∧ m (258 + 14 * t) = 0 ∧ m (259 + 14 * t) = s) ∨ (∃ a : Nat, e = 100 + (a : Int) ∧ 1 ≤ a ∧ (a : Int) < m 0 ∧ m (18 + 4 * a) = 0 ∧ m (19 + 4 * a) = s)
theorem loT_m {m : Nat → Int} {s : Int} : ∀ (n t : Nat) (r : Int × Int), r.2 ≤ (loT m s n t r).2 ∧ (∀ u, t ≤ u → u < t + n → m (258 + 14 * u) = 0 → m (259 + 14 * u) = s → m (260 + 14 * u) ≤ (loT m s n t r).2) ∧ (loT m s n t r = r ∨ ∃ u : Nat, t ≤ u ∧ u < t + n ∧ loT m s n t r = ((u : Int), m (260 + 14 * u)) ∧ m (258 + 14 * u) = 0 ∧ m (259 + 14 * u) = s)
  | 0, t, r => ⟨Int.le_refl _, fun u a b => by omega, Or.inl rfl⟩
  | n + 1, t, r => by
    unfold loT
    by_cases c : heldB m t = true ∧ m (259 + 14 * t) = s ∧ r.2 ≤ m (260 + 14 * t)
    · rw [if_pos c]
      have c0 : m (258 + 14 * t) = 0 := by have := c.1; unfold heldB at this; exact of_decide_eq_true this
      obtain ⟨a1, a2, a3⟩ := loT_m n (t + 1) ((t : Int), m (260 + 14 * t)) (m := m) (s := s)
      dsimp only at a1
      refine ⟨by omega, fun u x y h1 h2 => ?_, ?_⟩
      · by_cases e : u = t
        · subst e; exact a1
        · exact a2 u (by omega) (by omega) h1 h2
      · rcases a3 with a3 | ⟨u, x, y, a3⟩
        · exact Or.inr ⟨t, Nat.le_refl _, by omega, a3, c0, c.2.1⟩
        · exact Or.inr ⟨u, by omega, by omega, a3⟩
    · rw [if_neg c]
      obtain ⟨a1, a2, a3⟩ := loT_m n (t + 1) r (m := m) (s := s)
      refine ⟨a1, fun u x y h1 h2 => ?_, ?_⟩
      · by_cases e : u = t
        · subst e
          have : ¬ r.2 ≤ m (260 + 14 * u) := fun g => c ⟨by unfold heldB; exact decide_eq_true h1, h2, g⟩
          omega
        · exact a2 u (by omega) (by omega) h1 h2
      · rcases a3 with a3 | ⟨u, x, y, a3⟩
        · exact Or.inl a3
        · exact Or.inr ⟨u, by omega, by omega, a3⟩
theorem loS_m {m : Nat → Int} {s : Int} : ∀ (n t : Nat) (r : Int × Int), r.2 ≤ (loS m s n t r).2 ∧ (∀ u, t ≤ u → u < t + n → m (18 + 4 * u) = 0 → m (19 + 4 * u) = s → m (20 + 4 * u) ≤ (loS m s n t r).2) ∧ (loS m s n t r = r ∨ ∃ u : Nat, t ≤ u ∧ u < t + n ∧ loS m s n t r = (100 + (u : Int), m (20 + 4 * u)) ∧ m (18 + 4 * u) = 0 ∧ m (19 + 4 * u) = s)
  | 0, t, r => ⟨Int.le_refl _, fun u a b => by omega, Or.inl rfl⟩
  | n + 1, t, r => by
    unfold loS
    by_cases c : openB m t = true ∧ m (19 + 4 * t) = s ∧ r.2 ≤ m (20 + 4 * t)
    · rw [if_pos c]
      have c0 : m (18 + 4 * t) = 0 := by have := c.1; unfold openB at this; exact of_decide_eq_true this
      obtain ⟨a1, a2, a3⟩ := loS_m n (t + 1) (100 + (t : Int), m (20 + 4 * t)) (m := m) (s := s)
      dsimp only at a1
      refine ⟨by omega, fun u x y h1 h2 => ?_, ?_⟩
      · by_cases e : u = t
        · subst e; exact a1
        · exact a2 u (by omega) (by omega) h1 h2
      · rcases a3 with a3 | ⟨u, x, y, a3⟩
        · exact Or.inr ⟨t, Nat.le_refl _, by omega, a3, c0, c.2.1⟩
        · exact Or.inr ⟨u, by omega, by omega, a3⟩
    · rw [if_neg c]
      obtain ⟨a1, a2, a3⟩ := loS_m n (t + 1) r (m := m) (s := s)
      refine ⟨a1, fun u x y h1 h2 => ?_, ?_⟩
      · by_cases e : u = t
        · subst e
          have : ¬ r.2 ≤ m (20 + 4 * u) := fun g => c ⟨by unfold openB; exact decide_eq_true h1, h2, g⟩
          omega
        · exact a2 u (by omega) (by omega) h1 h2
      · rcases a3 with a3 | ⟨u, x, y, a3⟩
        · exact Or.inl a3
        · exact Or.inr ⟨u, by omega, by omega, a3⟩
theorem lastI_m {m : Nat → Int} {s : Int} (h0 : 1 ≤ m 0) (h1 : 0 ≤ m 1 ∧ m 1 ≤ 90) (hsp : ∀ e, canP m s e → 0 ≤ stampI m e) : (lastI m s < 0 ∧ ∀ e, ¬ canP m s e) ∨ (0 ≤ lastI m s ∧ canP m s (lastI m s) ∧ ∀ e, canP m s e → stampI m e ≤ stampI m (lastI m s)) := by
  obtain ⟨a1, a2, a3⟩ := loT_m (m := m) (s := s) (m 1).toNat 0 (-5, -1)
  obtain ⟨b1, b2, b3⟩ := loS_m (m := m) (s := s) ((m 0).toNat - 1) 1 (loT m s (m 1).toNat 0 (-5, -1))
  have eL : lastI m s = (loS m s ((m 0).toNat - 1) 1 (loT m s (m 1).toNat 0 (-5, -1))).1 := rfl
  generalize loS m s ((m 0).toNat - 1) 1 (loT m s (m 1).toNat 0 (-5, -1)) = R2 at b1 b2 b3 eL
  generalize loT m s (m 1).toNat 0 (-5, -1) = R1 at a1 a2 a3 b1 b3
  dsimp only at a1
  have mx : ∀ e, canP m s e → stampI m e ≤ R2.2 := fun e he => by
    rcases he with ⟨t, rfl, x, y, w⟩ | ⟨a, rfl, x, y, w, v⟩
    · rw [stampI_t (by omega)]
      have := a2 t (by omega) (by omega) y w
      omega
    · rw [stampI_s]
      exact b2 a x (by omega) w v
  rw [eL]
  rcases b3 with b3 | ⟨u, u1, u2, u3, u4, u5⟩
  · rcases a3 with a3 | ⟨u, u1, u2, u3, u4, u5⟩
    · left
      rw [b3, a3]
      refine ⟨by decide, fun e he => ?_⟩
      have p1 := hsp e he
      have p2 := mx e he
      rw [b3, a3] at p2
      dsimp only at p2
      omega
    · right
      rw [b3, u3]
      have cp : canP m s (u : Int) := Or.inl ⟨u, rfl, by omega, u4, u5⟩
      refine ⟨by dsimp only; omega, cp, fun e he => ?_⟩
      have p2 := mx e he
      rw [b3, u3] at p2
      rw [stampI_t (m := m) (t := u) (by omega)]
      exact p2
  · right
    rw [u3]
    have cp : canP m s (100 + (u : Int)) := Or.inr ⟨u, rfl, u1, by omega, u4, u5⟩
    refine ⟨by dsimp only; omega, cp, fun e he => ?_⟩
    have p2 := mx e he
    rw [u3] at p2
    rw [stampI_s]
    exact p2
theorem ltL_m {c f : Nat → Int} {i : Int} : ∀ t : Nat, (ltL c f i t = -1 ∧ ∀ j, j < t → ¬ (stP c (f j) ∧ ownF c (f j) = i)) ∨ (∃ j, j < t ∧ ltL c f i t = f j ∧ (stP c (f j) ∧ ownF c (f j) = i) ∧ ∀ k, j < k → k < t → ¬ (stP c (f k) ∧ ownF c (f k) = i))
  | 0 => Or.inl ⟨rfl, fun j hj => by omega⟩
  | t + 1 => by
    unfold ltL
    by_cases k : stP c (f t) ∧ ownF c (f t) = i
    · rw [if_pos k]
      exact Or.inr ⟨t, by omega, rfl, k, fun k a b => by omega⟩
    · rw [if_neg k]
      rcases ltL_m t (c := c) (f := f) (i := i) with ⟨a, b⟩ | ⟨j, a, b, d, e⟩
      · refine Or.inl ⟨a, fun j hj => ?_⟩
        by_cases w : j = t
        · subst w; exact k
        · exact b j (by omega)
      · refine Or.inr ⟨j, by omega, b, d, fun q x y => ?_⟩
        by_cases w : q = t
        · subst w; exact k
        · exact e q x (by omega)
/-- the class's last entry is the reference's -/
theorem last_eq {x : Int} {m pool c : Nat → Int} {S : Nat → Option mO} {C : Nat → Nat → Int} {nm : Nat → Int64} {g : Nat → Option Nat} (h : CRx x m pool S c C nm g) (hok : mOk m) (h0 : 1 ≤ m 0) (hst : ∀ t : Nat, (t : Int) < m 1 → 0 ≤ m (258 + 14 * t) ∧ m (258 + 14 * t) ≤ 2) (hss : ∀ a : Nat, (a : Int) < m 0 → 0 ≤ m (18 + 4 * a) ∧ m (18 + 4 * a) ≤ 2) (hsp : ∀ e, nodP m e → 0 ≤ stampI m e) {s : Int} {Z : Nat} (hZ : c 10 = (Z : Int)) : ltL c (C 2) s Z = if lastI m s < 0 then -1 else lastI m s := by
  obtain ⟨n, T, A, K, L, ⟨Z', e⟩, -, G, R⟩ := h
  have k0 := hok.2.1
  have k1 := hok.2.2.1
  have hZ' : Z' = Z := by have := e.1; omega
  subst hZ'
  have cn : ∀ e, canP m s e → nodP m e := fun e he => by
    rcases he with ⟨t, a, b, d, -⟩ | ⟨a, p, q, b, d, -⟩
    · exact Or.inl ⟨t, a, b, by rw [d]; decide⟩
    · exact Or.inr ⟨a, p, q, b, by rw [d]; decide⟩
  have cs : ∀ e', nodP m e' → ((stP c e' ∧ ownF c e' = s) ↔ canP m s e') := fun e' he => by
    rcases he with ⟨t, rfl, b, d⟩ | ⟨a, rfl, q, b, d⟩
    · obtain ⟨t1, t2, -⟩ := T t b
      have o1 : ownF c (t : Int) = m (259 + 14 * t) := by rw [ownF_t (by rw [n.1]; exact b) (by omega), t2]
      have o2 : stP c (t : Int) ↔ m (258 + 14 * t) = 0 := by
        unfold stP inW
        rw [Int.toNat_natCast, t1, swT_0 (hst t b)]
        constructor
        · rintro (w | w)
          · omega
          · exact w.2.2
        · intro w
          exact Or.inr ⟨by omega, ⟨by omega, by rw [n.1]; exact b, by omega⟩, w⟩
      rw [o1, o2]
      constructor
      · rintro ⟨w1, w2⟩; exact Or.inl ⟨t, rfl, b, w1, w2⟩
      · rintro (⟨u, w1, w2, w3, w4⟩ | ⟨u, w1, w2, w3, w4, w5⟩)
        · have : u = t := by omega
          subst this; exact ⟨w3, w4⟩
        · exfalso; omega
    · obtain ⟨t1, t2, -⟩ := A a b
      have o1 : ownF c (100 + (a : Int)) = m (19 + 4 * a) := by rw [ownF_s (by rw [n.2.1]; exact b) (by omega), t2]
      have o2 : stP c (100 + (a : Int)) ↔ m (18 + 4 * a) = 0 := by
        unfold stP inW
        rw [show (100 + (a : Int) - 100) = (a : Int) by omega, Int.toNat_natCast, t1, swT_0 (hss a b)]
        constructor
        · rintro (w | w)
          · exact w.2.2
          · omega
        · intro w
          exact Or.inl ⟨by omega, ⟨by omega, by rw [n.2.1]; exact b, by omega⟩, w⟩
      rw [o1, o2]
      constructor
      · rintro ⟨w1, w2⟩; exact Or.inr ⟨a, rfl, q, b, w1, w2⟩
      · rintro (⟨u, w1, w2, w3, w4⟩ | ⟨u, w1, w2, w3, w4, w5⟩)
        · exfalso; omega
        · have : u = a := by omega
          subst this; exact ⟨w4, w5⟩
  obtain ⟨e1, e2, e3, e4, e5, e6⟩ := e
  rcases lastI_m (s := s) h0 k1 (fun e he => hsp e (cn e he)) with ⟨l1, l2⟩ | ⟨l1, l2, l3⟩
  · rw [if_pos l1]
    rcases ltL_m (c := c) (f := C 2) (i := s) Z' with ⟨a, -⟩ | ⟨j, a, b, d, -⟩
    · exact a
    · exact absurd ((cs _ (e3 j a)).mp d) (l2 _)
  · rw [if_neg (by omega)]
    obtain ⟨j0, j1, j2⟩ := e5 _ (cn _ l2)
    rcases ltL_m (c := c) (f := C 2) (i := s) Z' with ⟨a, b⟩ | ⟨j, a, b, d, w⟩
    · exfalso
      refine b j0 j1 ?_
      rw [j2]
      exact (cs _ (cn _ l2)).mpr l2
    · rw [b]
      have p1 : j0 ≤ j := by
        by_cases q : j0 ≤ j
        · exact q
        · exfalso
          refine w j0 (by omega) j1 ?_
          rw [j2]
          exact (cs _ (cn _ l2)).mpr l2
      by_cases q : j0 = j
      · subst q; exact j2
      · exfalso
        have x1 := e4 j0 j (by omega) a
        have x2 := l3 _ ((cs _ (e3 j a)).mp d)
        rw [j2] at x1
        omega
end mg_a0
section mg_a1
/-! ===== a step is done: the class beside the reference ===== -/
theorem brL_st {pool : Nat → Int} : ∀ (n k p : Nat) (u : Int), brStop pool n p u → n ≤ k → brL pool (k + 1) p u = brL pool (n + 1) p u
  | 0, k, p, u, h, _ => by
    have h' : ¬ 0 < u := h
    unfold brL
    rw [if_neg h', if_neg h']
  | n + 1, 0, p, u, _, hk => by omega
  | n + 1, k + 1, p, u, h, hk => by
    by_cases c : 0 < u
    · have h' : brStop pool n (p + 1) (u + brk (pool p)) := h c
      have e1 : brL pool (k + 1 + 1) p u = brL pool (k + 1) (p + 1) (u + brk (pool p)) := by
        show (if 0 < u then brL pool (k + 1) (p + 1) (u + brk (pool p)) else p) = _
        rw [if_pos c]
      have e2 : brL pool (n + 1 + 1) p u = brL pool (n + 1) (p + 1) (u + brk (pool p)) := by
        show (if 0 < u then brL pool (n + 1) (p + 1) (u + brk (pool p)) else p) = _
        rw [if_pos c]
      rw [e1, e2]
      exact brL_st n k (p + 1) _ h' (by omega)
    · have e1 : brL pool (k + 1 + 1) p u = p := by
        show (if 0 < u then brL pool (k + 1) (p + 1) (u + brk (pool p)) else p) = _
        rw [if_neg c]
      have e2 : brL pool (n + 1 + 1) p u = p := by
        show (if 0 < u then brL pool (n + 1) (p + 1) (u + brk (pool p)) else p) = _
        rw [if_neg c]
      rw [e1, e2]
/-- the braces end where they end -/
theorem ftF_v {S : Nat → Option mO} {pool : Nat → Int} {n k b hi q r : Nat} (hq : pool q = 123) (hL : stL S pool k false 0 b hi (q + 1) r) (hr : pool r = 125) (hb : brStop pool n (q + 1) 1) : ftF pool n q = ((q : Int) + 1, (r : Int)) := by
  have sk := stsC_skip k _ _ (stL_tC k 0 b hi (q + 1) r hL)
  obtain ⟨b1, b2⟩ := sk.br (n := n + (r - (q + 1) + 1)) hr (by omega)
  unfold ftF
  rw [if_pos hq, ← brL_st n (n + (r - (q + 1) + 1)) (q + 1) 1 hb (by omega), b1]
  congr 1; omega
/-- what steps leave alone -/
def KPs (c c' : Nat → Int) (g g' : Nat → Option Nat) : Prop := (∀ u, g' (2 * u + 1) = g (2 * u + 1)) ∧ (∀ j, 180 ≤ j → g' j = g j) ∧ (∀ q, 488 ≤ q → (∀ t : Nat, q ≠ 496 + 9 * t) → c' q = c q) ∧ c' 3 = c 3 ∧ c' 4 = c 4
theorem KPs.rf {c : Nat → Int} {g : Nat → Option Nat} : KPs c c g g := ⟨fun _ => rfl, fun _ _ => rfl, fun _ _ _ => rfl, rfl, rfl⟩
def PFO (pool : Nat → Int) (S : Nat → Option mO) (cl : (Nat → Int) → Nat → (Nat → Int) → Prop) (r : Nat) (b z : Int) (f c : Nat → Int) (C : Nat → Nat → Int) (nm : Nat → Int64) (g : Nat → Option Nat) (h : mH) (m m' : Nat → Int) (fl : Int) (v : Option Value) (h' : mH) : Prop :=
  v = some (.int (J fl)) ∧ ((¬ fl = 0 ∧ m' = m ∧ h' = h) ∨ (fl = 0 ∧ ((∃ c' C' nm' g', isR h' r b z f c' C' nm' g' ∧ Same (rBlk r) h h' ∧ CR m' pool S c' C' nm' g' ∧ KPs c c' g g') ∨
    (∃ q : Nat, (q : Int) < m 1 ∧ m (258 + 14 * q) = 0 ∧ cl m q m' ∧ isR h' r b (z + 1) (updI f z.toNat (q : Int)) (updI c (32 + 3 * q) 2) C nm (btG g q) ∧ Same (rBlk r) h h'))))
def SR (m : Nat → Int) : Prop := ∀ a : Nat, (a : Int) < m 0 → 0 ≤ m (18 + 4 * a) ∧ m (18 + 4 * a) ≤ 2
section PFM
variable {G : mG} {l : Launch} {r : Nat} {b z : Int} {f c : Nat → Int} {C : Nat → Nat → Int} {nm : Nat → Int64} {g : Nat → Option Nat} {h : mH} {pool m m' : Nat → Int} {S : Nat → Option mO} {B : Int} {cl : (Nat → Int) → Nat → (Nat → Int) → Prop}
theorem pfm_A (hR : isR h r b z f c C nm g) (hS : ∀ a o, S a = some o → hGet h a = some o) (hSr : ∀ a, ¬ S a = none → ¬ rBlk r a) (hz0 : 0 ≤ z ∧ z < 160) (hC : CR m pool S c C nm g) (hI : Inv m pool B) (hSR : SR m) {k s s0 hi p e : Nat} {nx : Option Nat} (hA : stA S pool (stL S pool k false 0) s nx hi p e) (he : ¬ dgP (pool e)) {s2 fl : Int} (hs2 : InR s2) (hP : stpR pool cl m p s2 fl m') :
    RUN G l 6 mX3_perform 41 [some (.ref r), some (.ref s0), some (.int (J s2)), some (.ref s)] [] h (fun v h' => PFO pool S cl r b z f c C nm g h m m' fl v h') := by
  have hok := hI.1
  have k0 := hok.2.1
  have k1 := hok.2.2.1
  have k3 := hok.2.2.2.2.1
  have hst : ∀ t : Nat, (t : Int) < m 1 → 0 ≤ m (258 + 14 * t) ∧ m (258 + 14 * t) ≤ 2 := fun t ht => (hI.2.2.1 t ht).1
  obtain ⟨n0, T, A, K, L, ⟨Z, e0⟩, ⟨F, f0⟩, Gg, hc, hCC⟩ := id hC
  have hN : c 0 = (((m 1).toNat : Nat) : Int) := by rw [n0.1]; omega
  have hZ : c 10 = (Z : Int) := e0.1
  have hZ1 := e0.2.1
  have hop : ∀ i, opP c i ↔ openP m i := fun i => op_iff n0.2.1 k0.2 A hSR
  obtain ⟨ha, num, vl, y, inn, hs, hA⟩ := hA
  have hsh := hS s _ hs
  have hsr := hSr s (by rw [hs]; exact fun q => by cases q)
  obtain ⟨-, -, hp40, hP⟩ := hP
  rcases hA with ⟨a1, a2, a3, a4, a5, a6⟩ | ⟨a1, a2, a3⟩ | ⟨a1, q, a2, a3, a4⟩ | ⟨a1, a2, a3⟩ | ⟨a1, q, a2, a3, a4, a5, a6⟩ | ⟨a1, a2, a3, a4⟩ | ⟨a1, a2⟩
  · rcases hP with ⟨-, b2, rfl, n, b3, rfl⟩ | ⟨x, -⟩ | ⟨x, -⟩ | ⟨x, -⟩ | ⟨x, -⟩ | ⟨x, -⟩ | ⟨x, -⟩
    · obtain ⟨kk, hkk⟩ : ∃ kk : Nat, pool (p + 1) - 48 = kk := ⟨(pool (p + 1) - 48).toNat, by omega⟩
      refine (pf_plus (G := G) (l := l) 4 hR hc (s0 := s0) hsh a1 (i := s2) n0.2.2.2.1 (hCC 0) (k := kk) (by rw [a5]; exact hkk) (by omega)).mono (fun v h' q => ?_)
      obtain ⟨rfl, q1, q2⟩ := q
      refine ⟨rfl, Or.inr ⟨rfl, Or.inl ⟨_, _, _, _, q1, q2, ?_, KPs.rf⟩⟩⟩
      rw [show (10 + pool (p + 1) - 48).toNat = 10 + kk by omega, sgn_v a4 he b3, ← a6, ← L.1 kk (by omega)]
      exact CR_count hC hok (Int.le_refl _) (by omega) (wrap_r _)
    all_goals (exfalso; omega)
  · rcases hP with ⟨x, -⟩ | ⟨-, rfl, n, b1, rfl⟩ | ⟨x, -⟩ | ⟨x, -⟩ | ⟨x, -⟩ | ⟨x, -⟩ | ⟨x, -⟩
    · exfalso; omega
    · refine ((pf_bang (G := G) (l := l) 6 hR hc (s0 := s0) hsh a1 (i := s2))).mono (fun v h' q => ?_)
      obtain ⟨rfl, rfl⟩ := q
      rw [num_v a2 he b1, ← a3]
      refine ⟨rfl, ?_⟩
      by_cases w : num = 0
      · exact Or.inr ⟨w, Or.inl ⟨c, C, nm, g, hR, Same.refl, hC, KPs.rf⟩⟩
      · exact Or.inl ⟨w, rfl, rfl⟩
    all_goals (exfalso; omega)
  · rcases hP with ⟨x, -⟩ | ⟨x, -⟩ | ⟨-, n, b1, b2, b3, b4⟩ | ⟨x, -⟩ | ⟨x, -⟩ | ⟨x, -⟩ | ⟨x, -⟩
    · exfalso; omega
    · exfalso; omega
    · have ne := nam_end a2
      rw [ne] at b2 b3 b4
      have hbn := hb_hn (rc := pool) T hst a2.2.2.1 ⟨by have := a2.1; omega, a2.2.1⟩ (m 1).toNat 0 (by omega)
      rw [← a3] at hbn
      refine ((pf_take (G := G) (l := l) 2 hR hc (s0 := s0) hsh a1 (i := s2) hN (by omega) hZ (by omega) hsr hs2)).mono (fun v h' w => ?_)
      have nz : ∀ v : Int, takenV m pool (m 1).toNat (p + 1) q s2 = v → ¬ v = 0 → m' = m := fun v e1 e2 => by rw [b4]; unfold takenM; rw [if_neg (by rw [e1]; exact e2)]
      rcases w with ⟨w1, rfl, rfl⟩ | ⟨w1, w2, rfl, rfl⟩ | ⟨w1, w2, w3, rfl, rfl⟩ | ⟨w1, w2, w3, rfl, w5, w6⟩
      · have no : ¬ openP m s2 := fun g => w1 ((hop s2).mpr g)
        have hv : takenV m pool (m 1).toNat (p + 1) q s2 = 101 := by unfold takenV; rw [if_neg no]
        rw [hv] at b3
        exact ⟨by rw [b3], Or.inl ⟨by rw [b3]; decide, nz _ hv (by decide), rfl⟩⟩
      · have yo : openP m s2 := (hop s2).mp w1
        have hv : takenV m pool (m 1).toNat (p + 1) q s2 = 102 := by unfold takenV; rw [if_pos yo, if_pos (by rw [hbn]; exact w2)]
        rw [hv] at b3
        exact ⟨by rw [b3], Or.inl ⟨by rw [b3]; decide, nz _ hv (by decide), rfl⟩⟩
      · have yo : openP m s2 := (hop s2).mp w1
        have hv : takenV m pool (m 1).toNat (p + 1) q s2 = 103 := by unfold takenV; rw [if_pos yo, if_neg (by rw [hbn]; omega), if_pos (by omega)]
        rw [hv] at b3
        exact ⟨by rw [b3], Or.inl ⟨by rw [b3]; decide, nz _ hv (by decide), rfl⟩⟩
      · have yo : openP m s2 := (hop s2).mp w1
        have hv : takenV m pool (m 1).toNat (p + 1) q s2 = 0 := by unfold takenV; rw [if_pos yo, if_neg (by rw [hbn]; omega), if_neg (by omega)]
        rw [hv] at b3
        unfold takenM at b4
        rw [if_pos hv] at b4
        have ln1 : 1 ≤ q - (p + 1) ∧ q - (p + 1) ≤ 7 := ⟨by have := a2.1; omega, by have := a2.2.1; omega⟩
        have ln2 : p + 1 ≤ q := by have := a2.1; omega
        refine ⟨by rw [b3], Or.inr ⟨b3, Or.inl ⟨_, _, _, _, w5, w6, ?_, ?_⟩⟩⟩
        · have ft : ∃ P E : Nat, ftF pool n q = ((P : Int), (E : Int)) ∧ tpO S pool inn P E := by
            rcases a4 with ⟨x1, x2, x3⟩ | ⟨x1, r', b', x2, x3, x4, x5, x6, x7⟩
            · exact ⟨q, q, by unfold ftF; rw [if_neg x2], Or.inl ⟨rfl, x3⟩⟩
            · exact ⟨q + 1, r', by rw [ftF_v x1 x2 x4 (b2 x1)]; rfl, Or.inr ⟨b', hi, k, x6, x2⟩⟩
          obtain ⟨P, E, ft1, ft2⟩ := ft
          rw [b4, ft1, a3]
          dsimp only
          exact CR_take hC hok (rc := pool) (N := (m 1).toNat) (Int.toNat_of_nonneg k1.1).symm w3 ln1 ln2 a2.2.2.1 hs2 ft2 hZ
        · refine ⟨fun u => updO_n (by omega), fun j hj => updO_n (by omega), fun j hj _ => ?_, ?_, ?_⟩
          · unfold adE adC; rw [updI_n (by omega), updI_n (by omega), updI_n (by omega), updI_n (by omega), updI_n (by omega)]
          · unfold adE adC; rw [updI_n (by omega), updI_n (by omega), updI_n (by omega), updI_n (by omega), updI_n (by omega)]
          · unfold adE adC; rw [updI_n (by omega), updI_n (by omega), updI_n (by omega), updI_n (by omega), updI_n (by omega)]
    all_goals (exfalso; omega)
  · rcases hP with ⟨x, -⟩ | ⟨x, -⟩ | ⟨x, -⟩ | ⟨-, b1⟩ | ⟨x, -⟩ | ⟨x, -⟩ | ⟨x, -⟩
    · exfalso; omega
    · exfalso; omega
    · exfalso; omega
    · have ne := nam_end a2
      rw [ne] at b1
      have hbn := hb_hn (rc := pool) T hst a2.2.2.1 ⟨by have := a2.1; omega, a2.2.1⟩ (m 1).toNat 0 (by omega)
      rw [← a3] at hbn
      refine ((pf_close (G := G) (l := l) 3 hR hc (s0 := s0) hsh a1 (i := s2) hN (by omega) hz0)).mono (fun v h' w => ?_)
      rcases w with ⟨w1, rfl, rfl⟩ | ⟨q, w1, w2, w3, w4, rfl, w6, w7⟩
      · rcases b1 with ⟨b1, rfl, rfl⟩ | ⟨b1, -⟩
        · exact ⟨rfl, Or.inl ⟨by decide, rfl, rfl⟩⟩
        · exfalso; omega
      · rcases b1 with ⟨b1, -⟩ | ⟨b1, rfl, b3⟩
        · exfalso; omega
        · rw [hbn, w2, Int.toNat_natCast] at b3
          obtain ⟨t1, -⟩ := T q (by omega)
          rw [t1, swT_0 (hst q (by omega))] at w3
          exact ⟨rfl, Or.inr ⟨rfl, Or.inr ⟨q, by omega, w3, b3, w6, w7⟩⟩⟩
    all_goals (exfalso; omega)
  · rcases hP with ⟨x, -⟩ | ⟨x, -⟩ | ⟨x, -⟩ | ⟨x, -⟩ | ⟨-, n, b1, b2, b3⟩ | ⟨x, -⟩ | ⟨x, -⟩
    · exfalso; omega
    · exfalso; omega
    · exfalso; omega
    · exfalso; omega
    · have ne := nam_end a2
      rw [ne] at b1 b2 b3
      have hv := num_v a4 he b1
      rw [hv, ← a6] at b3
      rw [hv, ← a6] at b2
      have hbn := hb_hn (rc := pool) T hst a2.2.2.1 ⟨by have := a2.1; omega, a2.2.1⟩ (m 1).toNat 0 (by omega)
      rw [← a5] at hbn
      refine ((pf_move (G := G) (l := l) 3 hR hc (s0 := s0) hsh a1 (i := s2) hN (by omega) hZ (by omega) (hCC 2) b2)).mono (fun v h' w => ?_)
      rcases w with ⟨w1, rfl, rfl⟩ | ⟨w1, w2, rfl, rfl⟩ | ⟨q', w1, w2, w3, w4, w5, rfl, w6, w7⟩
      · rcases b3 with ⟨b3, rfl, rfl⟩ | ⟨b3, -⟩ | ⟨b3, -⟩
        · exact ⟨rfl, Or.inl ⟨by decide, rfl, rfl⟩⟩
        · exfalso; omega
        · exfalso; omega
      · have no : ¬ openP m num := fun g => w2 ((hop num).mpr g)
        rcases b3 with ⟨b3, -⟩ | ⟨b3, b4, rfl, rfl⟩ | ⟨b3, b4, -⟩
        · exfalso; omega
        · exact ⟨rfl, Or.inl ⟨by decide, rfl, rfl⟩⟩
        · exact absurd b4 no
      · have yo : openP m num := (hop num).mp w5
        rcases b3 with ⟨b3, -⟩ | ⟨b3, b4, -⟩ | ⟨b3, b4, rfl, rfl⟩
        · exfalso; omega
        · exact absurd yo b4
        · obtain ⟨t1, -⟩ := T q' (by omega)
          rw [t1, swT_0 (hst q' (by omega))] at w3
          refine ⟨rfl, Or.inr ⟨rfl, Or.inl ⟨_, _, _, _, w6, w7, ?_, ?_⟩⟩⟩
          · rw [hbn, w2, Int.toNat_natCast]
            exact CR_move hC hok (by omega) w3 b2 hZ
          · refine ⟨fun u => rfl, fun j hj => rfl, fun j hj _ => ?_, ?_, ?_⟩
            · unfold mvC; rw [updI_n (by omega), updI_n (by omega), updI_n (by omega)]
            · unfold mvC; rw [updI_n (by omega), updI_n (by omega), updI_n (by omega)]
            · unfold mvC; rw [updI_n (by omega), updI_n (by omega), updI_n (by omega)]
    all_goals (exfalso; omega)
  · rcases hP with ⟨x, -⟩ | ⟨x, -⟩ | ⟨x, -⟩ | ⟨x, -⟩ | ⟨x, -⟩ | ⟨-, b1, rfl, rfl⟩ | ⟨x, -⟩
    · exfalso; omega
    · exfalso; omega
    · exfalso; omega
    · exfalso; omega
    · exfalso; omega
    · have hn : InR num := ⟨by omega, by omega⟩
      have rk := rk_iff (i := num) n0.2.2.1 k3.2 K (by omega)
      rw [← a4]
      refine ((pf_cancel (G := G) (l := l) 4 hR hc (s0 := s0) hsh a1 (i := s2) hn)).mono (fun v h' w => ?_)
      rcases w with ⟨w1, rfl, rfl⟩ | ⟨w1, rfl, w3, w4⟩
      · have no : ¬ (num ≤ m 3 - 1 ∧ m (1610 + 72 * num).toNat = 0) := fun g => w1 (rk.mpr g)
        rw [if_neg no, if_neg no]
        exact ⟨rfl, Or.inl ⟨by decide, rfl, rfl⟩⟩
      · have yo := rk.mp w1
        rw [if_pos yo, if_pos yo]
        refine ⟨rfl, Or.inr ⟨rfl, Or.inl ⟨_, _, _, _, w3, w4, ?_, ?_⟩⟩⟩
        · rw [show (1614 + 72 * num).toNat = 1614 + 72 * num.toNat by omega]
          exact (CR_tk hC hok (Int.le_refl _) (q0 := num.toNat) (by omega) (by decide)).2
        · exact ⟨fun u => rfl, fun j hj => rfl, fun j hj ht => updI_n (ht num.toNat), updI_n (by omega), updI_n (by omega)⟩
    · exfalso; omega
  · rcases hP with ⟨x, -⟩ | ⟨x, -⟩ | ⟨x, -⟩ | ⟨x, -⟩ | ⟨x, -⟩ | ⟨x, -⟩ | ⟨-, rfl, rfl⟩
    · exfalso; omega
    · exfalso; omega
    · exfalso; omega
    · exfalso; omega
    · exfalso; omega
    · exfalso; omega
    · refine ((pf_nop (G := G) (l := l) 6 hR hc (s0 := s0) hsh a1 (i := s2))).mono (fun v h' q => ?_)
      obtain ⟨rfl, rfl⟩ := q
      exact ⟨rfl, Or.inr ⟨rfl, Or.inl ⟨c, C, nm, g, hR, Same.refl, hC, KPs.rf⟩⟩⟩
theorem pfm_Q (hPo : poolOk pool) (hR : isR h r b z f c C nm g) (hS : ∀ a o, S a = some o → hGet h a = some o) (hSr : ∀ a, ¬ S a = none → ¬ rBlk r a) (hz0 : 0 ≤ z ∧ z < 160) (hC : CR m pool S c C nm g) (hI : Inv m pool B) (hSR : SR m) {k s hi p e : Nat} {nx : Option Nat} (hQ : stQ S pool (stL S pool k false 0) s nx hi p e) (he : ¬ dgP (pool e)) {s2 fl : Int} (hs2 : InR s2) (hP : doesR pool cl m p s2 fl m') :
    RUNM G l 6 mX3_perform [.ref r, .ref s, .int (J s2)] h (fun v h' => PFO pool S cl r b z f c C nm g h m m' fl v h') := by
  rcases hQ with hA | ⟨h0, h1, h2, h3, q, b', y, nx2, h4, h5, h6, h7, h8⟩
  · have n63 : ¬ pool p = 63 := fun g => by
      obtain ⟨-, num, vl, y, inn, -, hA⟩ := hA
      rcases hA with t | t | t | t | t | t | t
      all_goals (have := t.1; omega)
    have hP' : stpR pool cl m p s2 fl m' := by
      rcases hP with hP | hP
      · exact hP
      · exact absurd hP.1 n63
    obtain ⟨-, num, vl, y, inn, hs, -⟩ := id hA
    have := hPo p
    exact pf_plain 6 (hS s _ hs) n63 ⟨by omega, by omega⟩ (pfm_A hR hS hSr hz0 hC hI hSR hA he hs2 hP')
  · have hok := hI.1
    obtain ⟨n0, T, A, K, L, ⟨Z, e0⟩, ⟨F, f0⟩, Gg, hc, hCC⟩ := id hC
    obtain ⟨kk, hkk⟩ : ∃ kk : Nat, pool (p + 1) - 48 = kk := ⟨(pool (p + 1) - 48).toNat, by omega⟩
    rcases hP with hP | ⟨-, -, -, -, -, n, k', g1, g2, g3, g4, g5, hP⟩
    · exfalso
      obtain ⟨-, -, -, hP⟩ := hP
      rcases hP with t | t | t | t | t | t | t
      · have := t.1; omega
      · have := t.1; omega
      · have := t.1; omega
      · have := t.1; omega
      · have := t.1; omega
      · have := t.1; omega
      · exact t.1.2.2.1 h1
    · have hv := sgn_v h5 (by rw [h6]; decide) g1
      have lt5 := (sgnS_lt h5).1
      have nc : ∀ j, p + 3 ≤ j → j < q → ¬ pool j = 58 := fun j a b => by
        rcases h5 with ⟨v0, v1, v2, v3⟩ | ⟨v1, v2, v3⟩
        · by_cases w : j = p + 3
          · subst w; rw [v0]; decide
          · have := v3 j (by omega) b
            unfold dgP at this; omega
        · have := v3 j a b
          unfold dgP at this; omega
      have kq : k' = q := by
        by_cases w : k' < q
        · exact absurd g3 (nc k' g2.1 w)
        · by_cases w2 : q < k'
          · exact absurd h6 (g4 q (by omega) w2)
          · omega
      subst kq
      rw [hv] at hP g5
      have hsh := hS s _ h4
      rw [show (10 + pool (p + 1) - 48).toNat = 10 + kk by omega, ← L.1 kk (by omega)] at hP
      rcases hP with ⟨w1, w2⟩ | ⟨w1, rfl, rfl⟩
      · exact pf_ifY (G := G) (l := l) 4 hR hc hsh n0.2.2.2.1 (hCC 0) (k := kk) hkk (by omega) g5 w1 (pfm_A hR hS hSr hz0 hC hI hSR h8 he hs2 w2)
      · refine (pf_ifN (G := G) (l := l) 4 hR hc hsh n0.2.2.2.1 (hCC 0) (k := kk) hkk (by omega) g5 w1).mono (fun v h' q => ?_)
        obtain ⟨rfl, rfl⟩ := q
        exact ⟨rfl, Or.inr ⟨rfl, Or.inl ⟨c, C, nm, g, hR, Same.refl, hC, KPs.rf⟩⟩⟩
end PFM
end mg_a1
section mg_a2
/-! ===== what holds between steps, written into what they do ===== -/
def drI (pool : Nat → Int) (cl : (Nat → Int) → Nat → (Nat → Int) → Prop) : (Nat → Int) → Nat → Int → Int → (Nat → Int) → Prop := fun m p s2 f m' => doesR pool cl m p s2 f m' ∧ (∃ B, Inv m' pool B) ∧ Ev m m'
def clI (pool : Nat → Int) (sink : Int) (cl : (Nat → Int) → Nat → (Nat → Int) → Prop) (m : Nat → Int) (t : Nat) (m' : Nat → Int) : Prop := mOk m ∧ t ≤ 89 ∧ ((¬ m (258 + 14 * t) = 0 ∧ m' = m) ∨ (m (258 + 14 * t) = 0 ∧ ∃ (p E k : Nat) (f : Int) (m2 : Nat → Int), m (262 + 14 * t) = p ∧ m (263 + 14 * t) = E ∧ p ≤ 12342 ∧ E ≤ 12342 ∧ loopR pool (drI pool cl) t E k (updI m (258 + 14 * t) 1) p f m2 ∧ mOk m2 ∧ InR f ∧ m2 2 ≤ 89 ∧ m2 4 ≤ 119 ∧ m2 5 ≤ 119 ∧ m' = closedM (if f = 0 then m2 else gathersM m2 sink f t) t))
def diI (pool : Nat → Int) (cl : (Nat → Int) → Nat → (Nat → Int) → Prop) (sh : (Nat → Int) → Int → (Nat → Int) → Prop) (m : Nat → Int) (t p : Nat) (f : Int) (m' : Nat → Int) : Prop := doesInR pool cl sh m t p f m' ∧ (∃ B, Mid m' pool B) ∧ TkM m' pool t ∧ keepT m m' t
def turnLoopI (pool : Nat → Int) (cl : (Nat → Int) → Nat → (Nat → Int) → Prop) (sh : (Nat → Int) → Int → (Nat → Int) → Prop) (t E : Nat) : Nat → (Nat → Int) → Nat → (Nat → Int) → Prop
  | 0, m, p, m' => E ≤ p ∧ turnFinR sh t E m p m'
  | k + 1, m, p, m' => (E ≤ p ∧ turnFinR sh t E m p m') ∨ (p < E ∧ ∃ f m1, diI pool cl sh m t p f m1 ∧ InR f ∧ (∀ q, InR (m1 q)) ∧
      ((¬ f = 0 ∧ isOverR sh t 2 (updI m1 (1618 + 72 * t) f) m') ∨
       (f = 0 ∧ ((pool p = 46 ∧ turnFinR sh t E (updI m1 (1615 + 72 * t) (m1 (1615 + 72 * t) + 1)) (behL pool (E - p) p 0 + 1) m') ∨
                 (¬ pool p = 46 ∧ turnLoopI pool cl sh t E k (updI m1 (1615 + 72 * t) (m1 (1615 + 72 * t) + 1)) (behL pool (E - p) p 0 + 1) m')))))
def turnI (pool : Nat → Int) (cl : (Nat → Int) → Nat → (Nat → Int) → Prop) (sh : (Nat → Int) → Int → (Nat → Int) → Prop) (m : Nat → Int) (t : Nat) (m' : Nat → Int) : Prop :=
  t ≤ 9 ∧ mOk (turnM m t) ∧ (∃ n : Nat, n ≤ 60 ∧ m (1619 + 72 * t) = n) ∧
  ((fineV (turnM m t) t = false ∧ isOverR sh t 3 (turnM m t) m') ∨
   (fineV (turnM m t) t = true ∧ ∃ p E k : Nat, m (1617 + 72 * t) = E ∧ m (1611 + 72 * t) = p ∧ E ≤ 12342 ∧ p ≤ 12343 ∧ turnLoopI pool cl sh t E k (turnM m t) p m'))
section EXI
variable {pool : Nat → Int} {sink : Int} {cl cl' : (Nat → Int) → Nat → (Nat → Int) → Prop} {sh sh' : (Nat → Int) → Int → (Nat → Int) → Prop} {n : Nat}
theorem loop_exI (hPo : poolOk pool) (hC : CXG cl pool n) {t P E : Nat} (hPE : E ≤ P + 120) : ∀ (k : Nat) (m : Nat → Int) (B : Int) (p : Nat), P ≤ p → (E : Int) ≤ m 8 → Inv m pool B → B + 130 * n + 2 + (E - p : Nat) ≤ 2000000000 → 91 ≤ n + cnt (cngB m) (m 1).toNat → stsC pool k p E →
    ∃ f m', loopR pool (drI pool cl) t E k m p f m' ∧ Inv m' pool (B + (E - p : Nat)) ∧ Ev m m' ∧ InR f
  | 0, m, B, p, _, _, _, _, _, hT => absurd hT id
  | k + 1, m, B, p, hP, hE, h, hB, hn, hT => by
    obtain ⟨e, t1, t2, t3⟩ := hT
    have hlt := stepQ_lt t1
    have heE : e ≤ E := by rcases t3 with t3 | ⟨t3, _⟩ <;> omega
    have hbe := (stepQ_skip (fun a b => stsC_skip k a b) t1).beh (E := E) heE (by rcases t3 with t3 | ⟨_, t3, _⟩; exact Or.inl t3; exact Or.inr t3)
    obtain ⟨f, m1, a, b, c, d⟩ := stepQ_exg (s2 := m (259 + 14 * t)) hPo hC h (by omega) hn (h.1.1 _) t1 (endC_nd t2) (by omega) (by omega)
    by_cases z : f = 0
    · subst z
      rcases t3 with rfl | ⟨t3, t4, t5⟩
      · refine ⟨0, m1, Or.inr ⟨by omega, 0, m1, ⟨a, ⟨_, b⟩, c⟩, d, Or.inr ⟨rfl, ?_⟩⟩, b.up (by omega), c, by decide⟩
        rw [hbe]
        cases k with
        | zero => exact ⟨by omega, rfl, rfl⟩
        | succ k => exact Or.inl ⟨by omega, rfl, rfl⟩
      · obtain ⟨f2, m2, a2, b2, c2, d2⟩ := loop_exI hPo hC hPE k m1 (B + 1) (e + 1) (by omega) (by rw [c.1 8 (by unfold far; omega)]; exact hE) b (by omega) (by rw [c.cng h.1.2.2.1.1]; exact hn) t5
        refine ⟨f2, m2, Or.inr ⟨by omega, 0, m1, ⟨a, ⟨_, b⟩, c⟩, d, Or.inr ⟨rfl, ?_⟩⟩, b2.up (by omega), c.tr c2, d2⟩
        rw [hbe]
        exact a2
    · exact ⟨f, m1, Or.inr ⟨by omega, f, m1, ⟨a, ⟨_, b⟩, c⟩, d, Or.inl ⟨z, rfl, rfl⟩⟩, b.up (by omega), c, d⟩
theorem closes_exI (hPo : poolOk pool) (hs : InR sink) (hC : CXG cl pool n) : CXG (clI pool sink cl) pool (n + 1) := fun m t B h hB hn ht h0 => by
    have k1 := h.1.2.2.1
    obtain ⟨i1, i2⟩ := inv_cng h ht h0
    have q : ∀ q, ¬ q = 258 + 14 * t → updI m (258 + 14 * t) 1 q = m q := fun q a => updI_n a
    obtain ⟨z1, z2, z3, P, E, e1, e2, hx⟩ := h.2.2.1 t ht
    have x1 := hx.le h.2.1.2.2
    obtain ⟨x2, x3, x4⟩ := hx
    have hl : ∃ k f m2, loopR pool (drI pool cl) t E k (updI m (258 + 14 * t) 1) P f m2 ∧ Inv m2 pool (B + 120) ∧ Ev (updI m (258 + 14 * t) 1) m2 ∧ InR f := by
      rcases x4 with ⟨rfl, -⟩ | ⟨x5, k, x4⟩
      · exact ⟨0, 0, _, ⟨Nat.le_refl _, rfl, rfl⟩, i1.up (by omega), Ev.rf, by decide⟩
      · obtain ⟨f, m2, a, b, c, d⟩ := loop_exI hPo hC (t := t) (P := P) x3 k _ B P (Nat.le_refl _) (by rw [q 8 (by omega)]; omega) i1 (by omega) (by rw [q 1 (by omega), i2]; omega) x4
        exact ⟨k, f, m2, a, b.up (by omega), c, d⟩
    obtain ⟨k, f, m2, l1, l2, l3, l4⟩ := hl
    obtain ⟨v1, v2, v3, v4, v5, v6⟩ := l3
    rw [q 1 (by omega)] at v2
    rw [q 2 (by omega), q 6 (by omega)] at v3
    have ht2 : (t : Int) < m2 1 := by omega
    have hc2 : m2 (258 + 14 * t) = 1 := ((v4 t (by rw [q 1 (by omega)]; exact ht)).2.2.1).mpr updI_s
    obtain ⟨g1, g2, g3, g4⟩ := inv_close l2 ht2 hc2 hs l4
    obtain ⟨lt1, lt2, lt3, lt4⟩ := l2.lt ht2 (by rw [hc2]; decide)
    refine ⟨_, ⟨h.1, by omega, Or.inr ⟨h0, P, E, k, f, m2, e1, e2, by omega, by omega, l1, l2.1, l4, by omega, by omega, by omega, rfl⟩⟩, g1.up (by omega), ⟨?_, ?_, ?_, ?_, ?_, ?_⟩, by omega, g3⟩
    · intro c hc
      rw [g4 c (by unfold far at hc; omega) (by unfold far at hc; omega) (by unfold far at hc; omega) (by unfold far at hc; omega) (by unfold far at hc; omega) (by unfold far at hc; omega), v1 c hc, q c (by unfold far at hc; omega)]
    · rw [g4 1 (by omega) (by omega) (by omega) (by omega) (by omega) (by omega)]; exact v2
    · rw [g4 6 (by omega) (by omega) (by omega) (by omega) (by omega) (by omega)]; omega
    · intro u hu
      have w := v4 u (by rw [q 1 (by omega)]; exact hu)
      rw [q _ (by omega), q _ (by omega)] at w
      rw [g4 (262 + 14 * u) (by omega) (by omega) (by omega) (by omega) (by omega) (by omega), g4 (263 + 14 * u) (by omega) (by omega) (by omega) (by omega) (by omega) (by omega)]
      refine ⟨w.1, w.2.1, ?_⟩
      by_cases c : u = t
      · subst c
        rw [g3, h0]
        exact ⟨by decide, fun z => absurd z (by decide)⟩
      · rw [q (258 + 14 * u) (by omega)] at w
        rw [g4 (258 + 14 * u) (by omega) (by omega) (by omega) (by omega) (by omega) (by omega)]
        exact w.2.2
    · intro u a b
      rw [g4 1 (by omega) (by omega) (by omega) (by omega) (by omega) (by omega)] at b
      have k12 := l2.1.2.2.1
      rw [g4 (258 + 14 * u) (by omega) (by omega) (by omega) (by omega) (by omega) (by omega)]
      exact v5 u (by rw [q 1 (by omega)]; exact a) b
    · intro u hu
      rw [g4 _ (by omega) (by omega) (by omega) (by omega) (by omega) (by omega)]
      have := v6 u hu
      rw [q _ (by omega)] at this
      exact this
theorem turnLoop_exI (hPo : poolOk pool) (hCX : CXG cl pool 91) (hSX : SXG sh pool 61) {t P E : Nat} (hPE : E ≤ P + 120) : ∀ (k : Nat) (m : Nat → Int) (B : Int) (o p : Nat), (t : Int) < m 3 → (E : Int) < m 8 → Mid m pool B → TkM m pool t → B + (E - p : Nat) ≤ 1800000000 → m (1619 + 72 * t) = (o : Int) + 1 → m (1616 + 72 * t) = P → m (1617 + 72 * t) = E → P ≤ p → m (1615 + 72 * t) ≤ (p : Int) - P → stsT pool k o p E →
    ∃ m', turnLoopI pool cl sh t E k m p m' ∧ Aft m m' pool (B + (E - p : Nat))
  | 0, m, B, o, p, _, _, _, _, _, _, _, _, _, _, hT => absurd hT id
  | k + 1, m, B, o, p, ht, hE8, h, hT, hB, hn, hP, hE, hp, hd, hS => by
    obtain ⟨e, o', t1, t2, t3⟩ := hS
    obtain ⟨hM, k0, k1, k2, k3, k4, k5, k7⟩ := id h.1.1
    have hlt := stepK_lt t1
    have h8 := h.1.2.1.2.2
    have heE : e ≤ E := by rcases t3 with t3 | ⟨t3, _⟩ <;> omega
    have hbe := (stepK_skip t1).beh (E := E) heE (by rcases t3 with t3 | ⟨_, t3, _⟩; exact Or.inl t3; exact Or.inr t3)
    obtain ⟨f, m1, a, b, c, d, kt, ko⟩ := doesIn_exg hPo hCX hSX ht h hT (by omega) hn t1 (endC_nd t2) (by omega) (by omega)
    obtain ⟨kt3, kt7, kt8, ktq⟩ := id kt
    have ht1 : (t : Int) < m1 3 := by omega
    obtain ⟨hM1, j0, j1, j2, j3, j4, j5, j7⟩ := id b.1.1
    have d1 : m1 (1615 + 72 * t) = m (1615 + 72 * t) := ktq _ (by omega) (by omega) (by omega)
    have d5 := (hT.2 t ht).1.2.2.2.2.1
    by_cases z : f = 0
    · subst z
      have e2 : ∀ q, ¬ q = 1615 + 72 * t → updI m1 (1615 + 72 * t) (m1 (1615 + 72 * t) + 1) q = m1 q := fun q a => updI_n a
      have hm : Mid (updI m1 (1615 + 72 * t) (m1 (1615 + 72 * t) + 1)) pool (B + 1) := b.out ⟨by omega, by omega⟩ (by omega)
      have hT2 : TkM (updI m1 (1615 + 72 * t) (m1 (1615 + 72 * t) + 1)) pool t := c.step (e2 3 (by omega)) (e2 0 (by omega)) j0.2 j3.2 (by rw [e2 7 (by omega)]; exact Int.le_refl _) (by rw [e2 8 (by omega)]; exact Int.le_refl _) (fun c _ hc => e2 _ (by omega)) (fun u hu hu9 => ⟨fun q a b c => e2 q (by omega), Or.inl (e2 _ (by omega))⟩) (fun _ => by
        obtain ⟨a1, a2, a3, a4, a5, a6, ⟨n, a7, a8⟩, a9, a10⟩ := (c.2 t ht1).1
        unfold tkB
        rw [updI_s, e2 8 (by omega), e2 _ (by omega), e2 _ (by omega), e2 _ (by omega), e2 _ (by omega), e2 _ (by omega), e2 _ (by omega), e2 _ (by omega), e2 _ (by omega), e2 _ (by omega), e2 _ (by omega), e2 _ (by omega), e2 _ (by omega)]
        refine ⟨a1, a2, a3, a4, ⟨by omega, by omega⟩, a6, ⟨n, a7, a8.1, fun k hk => ?_, fun k hk => ?_⟩, a9, a10⟩
        · rw [e2 _ (by omega), e2 0 (by omega)]; exact a8.2.1 k hk
        · have z1 := a8.2.1 (k + 1) hk
          rw [e2 (1620 + 72 * t + (k + 1)) (by omega), e2 (1620 + 72 * t + k) (by omega), e2 _ (by omega)]; exact a8.2.2 k hk)
      have g9 : updI m1 (1615 + 72 * t) (m1 (1615 + 72 * t) + 1) (1619 + 72 * t) = (o' : Int) + 1 := (e2 _ (by omega)).trans (ko rfl)
      have g6 : updI m1 (1615 + 72 * t) (m1 (1615 + 72 * t) + 1) (1616 + 72 * t) = P := (e2 _ (by omega)).trans ((ktq _ (by omega) (by omega) (by omega)).trans hP)
      have g7 : updI m1 (1615 + 72 * t) (m1 (1615 + 72 * t) + 1) (1617 + 72 * t) = E := (e2 _ (by omega)).trans ((ktq _ (by omega) (by omega) (by omega)).trans hE)
      have aft : ∀ m' B', Aft (updI m1 (1615 + 72 * t) (m1 (1615 + 72 * t) + 1)) m' pool B' → B' ≤ B + (E - p : Nat) → Aft m m' pool (B + (E - p : Nat)) := fun m' B' x y => ⟨x.1.up y, x.2.1, x.2.2.1.trans ((e2 3 (by omega)).trans kt3), x.2.2.2.1.trans ((e2 7 (by omega)).trans kt7), ⟨x.2.2.2.2.1.trans ((e2 8 (by omega)).trans kt8.1), by have y := x.2.2.2.2.2; rw [e2 1 (by omega)] at y; omega⟩⟩
      have fin : p < E ∧ e + 1 ≤ 12343 ∧ (e + 1 < E → ∃ P' : Nat, updI m1 (1615 + 72 * t) (m1 (1615 + 72 * t) + 1) (1616 + 72 * t) = P' ∧ P' ≤ e + 1 ∧ updI m1 (1615 + 72 * t) (m1 (1615 + 72 * t) + 1) (1615 + 72 * t) ≤ ((e + 1 : Nat) : Int) - P' ∧ ∃ k, stsT pool k o' (e + 1) E) := by
        refine ⟨by omega, by omega, fun g => ⟨P, g6, by omega, by rw [updI_s]; omega, ?_⟩⟩
        rcases t3 with t3 | ⟨t3, t4, t5⟩
        · omega
        · exact ⟨k, t5⟩
      by_cases dot : pool p = 46
      · obtain ⟨m', x1, x2⟩ := turnFin_exg hPo hCX hSX (by rw [e2 3 (by omega)]; exact ht1) hm hT2 (by omega) g9 g7 fin.2.1 fin.2.2
        exact ⟨m', Or.inr ⟨by omega, 0, m1, ⟨a, ⟨_, b⟩, c, kt⟩, d, hM1, Or.inr ⟨rfl, Or.inl ⟨dot, by rw [hbe]; exact x1⟩⟩⟩, aft m' _ x2 (by omega)⟩
      · rcases t3 with rfl | ⟨t3, t4, t5⟩
        · obtain ⟨m', x1, x2⟩ := turnFin_exg hPo hCX hSX (by rw [e2 3 (by omega)]; exact ht1) hm hT2 (by omega) g9 g7 fin.2.1 fin.2.2
          refine ⟨m', Or.inr ⟨by omega, 0, m1, ⟨a, ⟨_, b⟩, c, kt⟩, d, hM1, Or.inr ⟨rfl, Or.inr ⟨dot, ?_⟩⟩⟩, aft m' _ x2 (by omega)⟩
          rw [hbe]
          cases k with
          | zero => exact ⟨by omega, x1⟩
          | succ k => exact Or.inl ⟨by omega, x1⟩
        · clear fin
          obtain ⟨m', x1, x2⟩ := turnLoop_exI hPo hCX hSX hPE k _ (B + 1) o' (e + 1) (by rw [e2 3 (by omega)]; exact ht1) (by rw [e2 8 (by omega)]; omega) hm hT2 (by omega) g9 g6 g7 (by omega) (by rw [updI_s]; omega) t5
          exact ⟨m', Or.inr ⟨by omega, 0, m1, ⟨a, ⟨_, b⟩, c, kt⟩, d, hM1, Or.inr ⟨rfl, Or.inr ⟨dot, by rw [hbe]; exact x1⟩⟩⟩, aft m' _ x2 (by omega)⟩
    · have e2 : ∀ q, ¬ q = 1618 + 72 * t → updI m1 (1618 + 72 * t) f q = m1 q := fun q a => updI_n a
      have hm : Mid (updI m1 (1618 + 72 * t) f) pool (B + 1) := b.out d (by omega)
      have hT2 : TkM (updI m1 (1618 + 72 * t) f) pool t := c.step (e2 3 (by omega)) (e2 0 (by omega)) j0.2 j3.2 (by rw [e2 7 (by omega)]; exact Int.le_refl _) (by rw [e2 8 (by omega)]; exact Int.le_refl _) (fun c _ hc => e2 _ (by omega)) (fun u hu hu9 => ⟨fun q a b c => e2 q (by omega), Or.inl (e2 _ (by omega))⟩) (fun _ => by
        obtain ⟨a1, a2, a3, a4, a5, a6, ⟨n, a7, a8⟩, a9, a10⟩ := (c.2 t ht1).1
        unfold tkB
        rw [e2 8 (by omega), e2 _ (by omega), e2 _ (by omega), e2 _ (by omega), e2 _ (by omega), e2 _ (by omega), e2 _ (by omega), e2 _ (by omega), e2 _ (by omega), e2 _ (by omega), e2 _ (by omega), e2 _ (by omega), e2 _ (by omega), e2 _ (by omega)]
        refine ⟨a1, a2, a3, a4, a5, a6, ⟨n, a7, a8.1, fun k hk => ?_, fun k hk => ?_⟩, a9, a10⟩
        · rw [e2 _ (by omega), e2 0 (by omega)]; exact a8.2.1 k hk
        · have z1 := a8.2.1 (k + 1) hk
          rw [e2 (1620 + 72 * t + (k + 1)) (by omega), e2 (1620 + 72 * t + k) (by omega), e2 _ (by omega)]; exact a8.2.2 k hk)
      obtain ⟨m', x1, x2, x3, x4⟩ := isOver_exg hPo hCX hSX (st := 2) (by rw [e2 3 (by omega)]; exact ht1) hm hT2 (by omega) (by decide)
      refine ⟨m', Or.inr ⟨by omega, f, m1, ⟨a, ⟨_, b⟩, c, kt⟩, d, hM1, Or.inl ⟨z, x1⟩⟩, x2.up (by omega), x3, ?_, ?_, ?_⟩
      · rw [x4.1 3 (Or.inr (Or.inl rfl)), updI_n (by omega), e2 3 (by omega)]; exact kt3
      · rw [x4.1 7 (Or.inr (Or.inr (Or.inl rfl))), updI_n (by omega), e2 7 (by omega)]; exact kt7
      · have y := x4.2.2.1.1
        rw [updI_n (by omega), e2 1 (by omega)] at y
        rw [x4.1 8 (Or.inr (Or.inr (Or.inr (Or.inl rfl)))), updI_n (by omega), e2 8 (by omega)]; exact ⟨kt8.1, by omega⟩
theorem turn_exI (hPo : poolOk pool) (hCX : CXG cl pool 91) (hSX : SXG sh pool 61) {m : Nat → Int} {B : Int} {t : Nat} (ht : (t : Int) < m 3) (h : Mid m pool B) (hT : TkM m pool 99) (hB : B ≤ 1700000000) (h7 : m 7 ≤ 1000000000) (hrd : m (1610 + 72 * t) = 0) :
    ∃ m', turnI pool cl sh m t m' ∧ Mid m' pool (B + 120) ∧ TkM m' pool 99 ∧ m' 3 = m 3 ∧ m' 7 = m 7 + 1 ∧ (m' 8 = m 8 ∧ m 1 ≤ m' 1) := by
  obtain ⟨hM, k0, k1, k2, k3, k4, k5, k7⟩ := id h.1.1
  obtain ⟨a1, a2, a3, a4, a5, a6, ⟨n, a7, a8⟩, ⟨p0, a9, a9b⟩, P0, E0, a10⟩ := id (hT.2 t ht).1
  have h8 := h.1.2.1.2.2
  obtain ⟨o, P, E, p, r1, r2, r3, r4, r5, r6, r7⟩ := (hT.2 t ht).2 (by omega) hrd
  have t7 := hT.1
  have e : ∀ q, ¬ q = 7 → ¬ q = 1612 + 72 * t → ¬ q = 1613 + 72 * t → turnM m t q = m q := fun q a b c => by unfold turnM; rw [updI_n c, updI_n b, updI_n a]
  have e7 : turnM m t 7 = m 7 + 1 := by unfold turnM; rw [updI_n (by omega), updI_n (by omega), updI_s]
  have e2 : turnM m t (1612 + 72 * t) = m (1612 + 72 * t) + 1 := by unfold turnM; rw [updI_n (by omega), updI_s]
  have e3 : turnM m t (1613 + 72 * t) = m 7 + 1 := by unfold turnM; rw [updI_s]
  have hm : Mid (turnM m t) pool B := ((h.out (k := 7) (v := m 7 + 1) ⟨by omega, by omega⟩ (Or.inl rfl)).out (k := 1612 + 72 * t) (v := m (1612 + 72 * t) + 1) ⟨by omega, by omega⟩ (by omega)).out (k := 1613 + 72 * t) (v := m 7 + 1) ⟨by omega, by omega⟩ (by omega)
  have hT2 : TkM (turnM m t) pool t := (hT.weak k3.2 : TkM m pool t).step (e 3 (by omega) (by omega) (by omega)) (e 0 (by omega) (by omega) (by omega)) k0.2 k3.2 (by omega) (by rw [e 8 (by omega) (by omega) (by omega)]; exact Int.le_refl _) (fun c _ hc => e _ (by omega) (by omega) (by omega)) (fun u hu hu9 => ⟨fun q a b c => e q (by omega) (by omega) (by omega), Or.inl (e _ (by omega) (by omega) (by omega))⟩) (fun _ => by
    unfold tkB
    rw [e7, e2, e3, e 8 (by omega) (by omega) (by omega), e _ (by omega) (by omega) (by omega), e _ (by omega) (by omega) (by omega), e _ (by omega) (by omega) (by omega), e _ (by omega) (by omega) (by omega), e _ (by omega) (by omega) (by omega), e _ (by omega) (by omega) (by omega), e _ (by omega) (by omega) (by omega), e _ (by omega) (by omega) (by omega), e _ (by omega) (by omega) (by omega), e _ (by omega) (by omega) (by omega)]
    refine ⟨a1, a2, a3, ⟨⟨by omega, by omega⟩, ⟨by omega, Int.le_refl _⟩⟩, a5, a6, ⟨n, a7, a8.1, fun k hk => ?_, fun k hk => ?_⟩, ⟨p0, a9, a9b⟩, P0, E0, a10⟩
    · rw [e _ (by omega) (by omega) (by omega), e 0 (by omega) (by omega) (by omega)]; exact a8.2.1 k hk
    · have z1 := a8.2.1 (k + 1) hk
      rw [e (1620 + 72 * t + (k + 1)) (by omega) (by omega) (by omega), e (1620 + 72 * t + k) (by omega) (by omega) (by omega), e _ (by omega) (by omega) (by omega)]; exact a8.2.2 k hk)
  have hx := r7
  obtain ⟨kk, hx⟩ := hx
  have hlx := stsT_lt hx
  by_cases c : fineV (turnM m t) t = true
  · obtain ⟨m', x1, x2⟩ := turnLoop_exI hPo hCX hSX (t := t) (P := P) (E := E) (by omega) kk (turnM m t) B o p (by rw [e 3 (by omega) (by omega) (by omega)]; exact ht) (by rw [e 8 (by omega) (by omega) (by omega)]; omega) hm hT2 (by omega) (by rw [e _ (by omega) (by omega) (by omega)]; exact r1) (by rw [e _ (by omega) (by omega) (by omega)]; exact r2) (by rw [e _ (by omega) (by omega) (by omega)]; exact r3) r5 (by rw [e _ (by omega) (by omega) (by omega)]; exact r6) hx
    refine ⟨m', ⟨by omega, hm.1.1, ⟨n, a8.1.2, a7⟩, Or.inr ⟨c, p, E, kk, r3, r4, by omega, by omega, x1⟩⟩, x2.1.up (by omega), x2.2.1, ?_, ?_, ?_⟩
    · rw [x2.2.2.1, e 3 (by omega) (by omega) (by omega)]
    · rw [x2.2.2.2.1, e7]
    · have y := x2.2.2.2.2
      rw [e 8 (by omega) (by omega) (by omega), e 1 (by omega) (by omega) (by omega)] at y; exact y
  · obtain ⟨m', x1, x2, x3, x4⟩ := isOver_exg hPo hCX hSX (st := 3) (by rw [e 3 (by omega) (by omega) (by omega)]; exact ht) hm hT2 (by omega) (by decide)
    refine ⟨m', ⟨by omega, hm.1.1, ⟨n, a8.1.2, a7⟩, Or.inl ⟨by simpa using c, x1⟩⟩, x2.up (by omega), x3, ?_, ?_, ?_⟩
    · rw [x4.1 3 (Or.inr (Or.inl rfl)), updI_n (by omega), e 3 (by omega) (by omega) (by omega)]
    · rw [x4.1 7 (Or.inr (Or.inr (Or.inl rfl))), updI_n (by omega), e7]
    · have y := x4.2.2.1.1
      rw [updI_n (by omega), e 1 (by omega) (by omega) (by omega)] at y
      rw [x4.1 8 (Or.inr (Or.inr (Or.inr (Or.inl rfl)))), updI_n (by omega), e 8 (by omega) (by omega) (by omega)]; exact ⟨rfl, y⟩
/-! more is done by less -/
theorem stpR_mo (h : ∀ m t m', cl m t m' → cl' m t m') {m m' : Nat → Int} {p : Nat} {s2 f : Int} (k : stpR pool cl m p s2 f m') : stpR pool cl' m p s2 f m' := by
  obtain ⟨a, b, c, k⟩ := k
  refine ⟨a, b, c, ?_⟩
  rcases k with k | k | k | ⟨k1, k2 | ⟨k2, k3, k4⟩⟩ | k | k | k
  · exact Or.inl k
  · exact Or.inr (Or.inl k)
  · exact Or.inr (Or.inr (Or.inl k))
  · exact Or.inr (Or.inr (Or.inr (Or.inl ⟨k1, Or.inl k2⟩)))
  · exact Or.inr (Or.inr (Or.inr (Or.inl ⟨k1, Or.inr ⟨k2, k3, h _ _ _ k4⟩⟩)))
  · exact Or.inr (Or.inr (Or.inr (Or.inr (Or.inl k))))
  · exact Or.inr (Or.inr (Or.inr (Or.inr (Or.inr (Or.inl k)))))
  · exact Or.inr (Or.inr (Or.inr (Or.inr (Or.inr (Or.inr k)))))
theorem doesR_mo (h : ∀ m t m', cl m t m' → cl' m t m') {m m' : Nat → Int} {p : Nat} {s2 f : Int} (k : doesR pool cl m p s2 f m') : doesR pool cl' m p s2 f m' := by
  rcases k with k | ⟨k1, k2, k3, k4, k5, n, j, k6, k7, k8, k9, k10, k11⟩
  · exact Or.inl (stpR_mo h k)
  · refine Or.inr ⟨k1, k2, k3, k4, k5, n, j, k6, k7, k8, k9, k10, ?_⟩
    rcases k11 with ⟨a, b⟩ | k11
    · exact Or.inl ⟨a, stpR_mo h b⟩
    · exact Or.inr k11
theorem loopR_mo {dr dr' : (Nat → Int) → Nat → Int → Int → (Nat → Int) → Prop} (h : ∀ m p s2 f m', dr m p s2 f m' → dr' m p s2 f m') {t E : Nat} : ∀ (k : Nat) (m : Nat → Int) (p : Nat) (f : Int) (m' : Nat → Int), loopR pool dr t E k m p f m' → loopR pool dr' t E k m p f m'
  | 0, m, p, f, m', k => k
  | n + 1, m, p, f, m', k => by
    rcases k with k | ⟨k1, f1, m1, k2, k3, k4⟩
    · exact Or.inl k
    · refine Or.inr ⟨k1, f1, m1, h _ _ _ _ _ k2, k3, ?_⟩
      rcases k4 with k4 | ⟨k4, k5⟩
      · exact Or.inl k4
      · exact Or.inr ⟨k4, loopR_mo h n _ _ _ _ k5⟩
theorem clI_mo (h : ∀ m t m', cl m t m' → closesR pool sink n m t m') {m m' : Nat → Int} {t : Nat} (k : clI pool sink cl m t m') : closesR pool sink (n + 1) m t m' := by
  obtain ⟨a, b, c | ⟨c, p, E, j, f, m2, d1, d2, d3, d4, d5, d6⟩⟩ := k
  · exact ⟨a, b, Or.inl c⟩
  · exact ⟨a, b, Or.inr ⟨c, p, E, j, f, m2, d1, d2, d3, d4, loopR_mo (fun m p s2 f m' x => doesR_mo h x.1) j _ _ _ _ d5, d6⟩⟩
theorem shLoopR_mo (hc : ∀ m t m', cl m t m' → cl' m t m') (hs : ∀ m s m', sh m s m' → sh' m s m') {s : Int} : ∀ (k : Nat) (m m' : Nat → Int), shLoopR cl sh s k m m' → shLoopR cl' sh' s k m m'
  | 0, m, m', k => k
  | n + 1, m, m', k => by
    obtain ⟨a, b, c | ⟨c, m1, d, e⟩ | ⟨c, m1, d, e⟩⟩ := k
    · exact ⟨a, b, Or.inl c⟩
    · exact ⟨a, b, Or.inr (Or.inl ⟨c, m1, hc _ _ _ d, shLoopR_mo hc hs n _ _ e⟩)⟩
    · exact ⟨a, b, Or.inr (Or.inr ⟨c, m1, hs _ _ _ d, shLoopR_mo hc hs n _ _ e⟩)⟩
theorem shB_mo (hc : ∀ m t m', cl m t m' → closesR pool sink 91 m t m') (hs : ∀ m s m', sh m s m' → shutsR pool sink n m s m') {m m' : Nat → Int} {s : Int} (k : shB cl sh m s m') : shutsR pool sink (n + 1) m s m' := by
  obtain ⟨a, b, c | ⟨c, j, m2, d, e⟩⟩ := k
  · exact ⟨a, b, Or.inl c⟩
  · exact ⟨a, b, Or.inr ⟨c, j, m2, shLoopR_mo hc hs j _ _ d, e⟩⟩
theorem overR_mo (hs : ∀ m s m', sh m s m' → sh' m s m') {t : Nat} : ∀ (k : Nat) (m m' : Nat → Int), overR sh t k m m' → overR sh' t k m m'
  | 0, m, m', k => k
  | n + 1, m, m', k => by
    obtain ⟨a, m1, b, c⟩ := k
    exact ⟨a, m1, hs _ _ _ b, overR_mo hs n _ _ c⟩
theorem isOverR_mo (hs : ∀ m s m', sh m s m' → sh' m s m') {t : Nat} {st : Int} {m m' : Nat → Int} (k : isOverR sh t st m m') : isOverR sh' t st m m' := by
  obtain ⟨a, j, b, c, d⟩ := k
  exact ⟨a, j, b, c, overR_mo hs j _ _ d⟩
theorem turnFinR_mo (hs : ∀ m s m', sh m s m' → sh' m s m') {t E p : Nat} {m m' : Nat → Int} (k : turnFinR sh t E m p m') : turnFinR sh' t E m p m' := by
  obtain ⟨a, b, c | ⟨c, d⟩⟩ := k
  · exact ⟨a, b, Or.inl c⟩
  · exact ⟨a, b, Or.inr ⟨c, isOverR_mo hs d⟩⟩
theorem doesInR_mo (hc : ∀ m t m', cl m t m' → cl' m t m') (hs : ∀ m s m', sh m s m' → sh' m s m') {t p : Nat} {f : Int} {m m' : Nat → Int} (k : doesInR pool cl sh m t p f m') : doesInR pool cl' sh' m t p f m' := by
  obtain ⟨a, b, c, j, d, e, k | ⟨k1, k2, k3⟩ | ⟨k1, k2, k3⟩⟩ := k
  · exact ⟨a, b, c, j, d, e, Or.inl k⟩
  · exact ⟨a, b, c, j, d, e, Or.inr (Or.inl ⟨k1, k2, hs _ _ _ k3⟩)⟩
  · exact ⟨a, b, c, j, d, e, Or.inr (Or.inr ⟨k1, k2, doesR_mo hc k3⟩)⟩
theorem turnLoopI_mo (hc : ∀ m t m', cl m t m' → cl' m t m') (hs : ∀ m s m', sh m s m' → sh' m s m') {t E : Nat} : ∀ (k : Nat) (m : Nat → Int) (p : Nat) (m' : Nat → Int), turnLoopI pool cl sh t E k m p m' → turnLoopR pool cl' sh' t E k m p m'
  | 0, m, p, m', k => ⟨k.1, turnFinR_mo hs k.2⟩
  | n + 1, m, p, m', k => by
    rcases k with ⟨a, b⟩ | ⟨a, f, m1, b, c, d, e⟩
    · exact Or.inl ⟨a, turnFinR_mo hs b⟩
    · refine Or.inr ⟨a, f, m1, doesInR_mo hc hs b.1, c, d, ?_⟩
      rcases e with ⟨e1, e2⟩ | ⟨e1, ⟨e2, e3⟩ | ⟨e2, e3⟩⟩
      · exact Or.inl ⟨e1, isOverR_mo hs e2⟩
      · exact Or.inr ⟨e1, Or.inl ⟨e2, turnFinR_mo hs e3⟩⟩
      · exact Or.inr ⟨e1, Or.inr ⟨e2, turnLoopI_mo hc hs n _ _ _ e3⟩⟩
theorem turnI_mo (hc : ∀ m t m', cl m t m' → cl' m t m') (hs : ∀ m s m', sh m s m' → sh' m s m') {t : Nat} {m m' : Nat → Int} (k : turnI pool cl sh m t m') : turnR pool cl' sh' m t m' := by
  obtain ⟨a, b, c, ⟨d, e⟩ | ⟨d, p, E, j, e1, e2, e3, e4, e5⟩⟩ := k
  · exact ⟨a, b, c, Or.inl ⟨d, isOverR_mo hs e⟩⟩
  · exact ⟨a, b, c, Or.inr ⟨d, p, E, j, e1, e2, e3, e4, turnLoopI_mo hc hs j _ _ _ e5⟩⟩
end EXI
end mg_a2
section mg_a3
/-! ===== the rounds of the class's work, beside the reference's closings ===== -/
noncomputable def WHd (G : mG) (l : Launch) (r k : Nat) (h : mH) (Q : Option Value → mH → Prop) : Prop := ∀ o : Option Value, RUN G l 12 mX3_work 2 [some (.ref r), some (.int (J (k : Int))), o] [] h Q
/-- from here the work comes to where T holds -/
def GOES (G : mG) (l : Launch) (r k : Nat) (h : mH) (T : Nat → mH → Prop) : Prop := ∀ Q, (∀ k' h', T k' h' → WHd G l r k' h' Q) → WHd G l r k h Q
theorem GOES.rf {G : mG} {l : Launch} {r k : Nat} {h : mH} {T : Nat → mH → Prop} (t : T k h) : GOES G l r k h T := fun _ K => K k h t
theorem GOES.bind {G : mG} {l : Launch} {r k : Nat} {h : mH} {T T' : Nat → mH → Prop} (a : GOES G l r k h T) (f : ∀ k' h', T k' h' → GOES G l r k' h' T') : GOES G l r k h T' := fun Q K => a Q (fun k' h' t => f k' h' t Q K)
theorem GOES.mono {G : mG} {l : Launch} {r k : Nat} {h : mH} {T T' : Nat → mH → Prop} (a : GOES G l r k h T) (f : ∀ k' h', T k' h' → T' k' h') : GOES G l r k h T' := fun Q K => a Q (fun k' h' t => K k' h' (f k' h' t))
section GO
variable {G : mG} {l : Launch} {r : Nat} {b z : Int} {f c : Nat → Int} {C : Nat → Nat → Int} {nm : Nat → Int64} {g : Nat → Option Nat} {h : mH}
theorem go_thing (hR : isR h r b z f c C nm g) (hz : 0 < z ∧ z ≤ 160) {k : Nat} (hk : k < 1000000) {t : Nat} (ht : t < 90) (htop : f (z.toNat - 1) = (t : Int)) {R : mH → Prop} (P : RUNM G l 11 mX3_goOnClosing [.ref r, .int (J (t : Int))] h (fun v h' => v = none ∧ R h')) : GOES G l r k h (fun k' h' => k' = k + 1 ∧ R h') := fun _ K o =>
  wk_thing 10 hR hz hk ht htop P (fun h' o' hr => K (k + 1) h' ⟨rfl, hr⟩ o')
theorem go_scope (hR : isR h r b z f c C nm g) (hz : 0 < z ∧ z ≤ 160) {k : Nat} (hk : k < 1000000) {u : Nat} (hu : u < 60) (htop : f (z.toNat - 1) = 100 + (u : Int)) {R : mH → Prop} (P : RUNM G l 11 mX3_goOnShutting [.ref r, .int (J (u : Int))] h (fun v h' => v = none ∧ R h')) : GOES G l r k h (fun k' h' => k' = k + 1 ∧ R h') := fun _ K o =>
  wk_scope 10 hR hz hk hu htop P (fun h' o' hr => K (k + 1) h' ⟨rfl, hr⟩ o')
theorem go_task (hR : isR h r b z f c C nm g) (hz : 0 < z ∧ z ≤ 160) {k : Nat} (hk : k < 1000000) {q : Nat} (hq : q < 10) (htop : f (z.toNat - 1) = 200 + (q : Int)) {R : mH → Prop} (P : RUNM G l 11 mX3_goOnWithTask [.ref r, .int (J (q : Int))] h (fun v h' => v = none ∧ R h')) : GOES G l r k h (fun k' h' => k' = k + 1 ∧ R h') := fun _ K o =>
  wk_task 10 hR hz hk hq htop P (fun h' o' hr => K (k + 1) h' ⟨rfl, hr⟩ o')
end GO
/-- what closings leave alone: where the closers at work go on, the tasks -/
def KPt (m c c' : Nat → Int) (g g' : Nat → Option Nat) : Prop := (∀ u : Nat, (u : Int) < m 1 → m (258 + 14 * u) = 1 → g' (2 * u + 1) = g (2 * u + 1)) ∧ (∀ j, 180 ≤ j → g' j = g j) ∧ (∀ q, 488 ≤ q → (∀ t : Nat, q ≠ 496 + 9 * t) → c' q = c q) ∧ c' 3 = c 3 ∧ c' 4 = c 4
def phi (k : Nat) (m : Nat → Int) : Int := k + 200 * (90 - m 2) - 150 * cnt (cngB m) (m 1).toNat
/-- the closing of a thing, from the round at which it stands on top -/
def SIMC (G : mG) (l : Launch) (r : Nat) (b : Int) (pool : Nat → Int) (S : Nat → Option mO) (h0 : mH) (m : Nat → Int) (t : Nat) (m' : Nat → Int) : Prop :=
  SR m → ∀ (k z : Nat) (f c : Nat → Int) (C : Nat → Nat → Int) (nm : Nat → Int64) (g : Nat → Option Nat) (h : mH), isR h r b ((z : Int) + 1) f c C nm g → f z = t → Same (rBlk r) h0 h → CR (updI m (258 + 14 * t) 1) pool S c C nm g → g (2 * t + 1) = g (2 * t) → (z : Int) ≤ 61 + cnt (cngB m) (m 1).toNat → phi k m ≤ 900000 →
  GOES G l r k h (fun k' h' => ∃ f' c' C' nm' g', isR h' r b z f' c' C' nm' g' ∧ Same (rBlk r) h0 h' ∧ CR m' pool S c' C' nm' g' ∧ (∀ j, j < z → f' j = f j) ∧ KPt m c c' g g' ∧ phi k' m' ≤ phi k m)
def clS (G : mG) (l : Launch) (r : Nat) (b : Int) (pool : Nat → Int) (S : Nat → Option mO) (h0 : mH) (n : Nat) (m : Nat → Int) (t : Nat) (m' : Nat → Int) : Prop := closesR pool b n m t m' ∧ SIMC G l r b pool S h0 m t m' ∧ Ev m m'
/-- a step with a fault has changed nothing -/
theorem stp_same {pool : Nat → Int} {cl : (Nat → Int) → Nat → (Nat → Int) → Prop} {m m' : Nat → Int} {p : Nat} {s2 f : Int} (hf : ¬ f = 0) (k : stpR pool cl m p s2 f m') : m' = m := by
  obtain ⟨-, -, -, k⟩ := k
  rcases k with ⟨-, -, k, -⟩ | ⟨-, k, -⟩ | ⟨-, n, -, -, k1, k2⟩ | ⟨-, ⟨-, -, k⟩ | ⟨-, k, -⟩⟩ | ⟨-, n, -, -, ⟨-, -, k⟩ | ⟨-, -, -, k⟩ | ⟨-, -, k, -⟩⟩ | ⟨-, -, k1, k2⟩ | ⟨-, k, -⟩
  · exact absurd k hf
  · exact k
  · rw [k2]; unfold takenM; rw [if_neg (by rw [← k1]; exact hf)]
  · exact k
  · exact absurd k hf
  · exact k
  · exact k
  · exact absurd k hf
  · rw [k2]
    by_cases w : pool (p + 1) - 48 ≤ m 3 - 1 ∧ m (1610 + 72 * (pool (p + 1) - 48)).toNat = 0
    · rw [if_pos w] at k1; exact absurd k1 hf
    · rw [if_neg w]
  · exact absurd k hf
theorem pf_same {pool : Nat → Int} {cl : (Nat → Int) → Nat → (Nat → Int) → Prop} {m m' : Nat → Int} {p : Nat} {s2 f : Int} (hf : ¬ f = 0) (k : doesR pool cl m p s2 f m') : m' = m := by
  rcases k with k | ⟨-, -, -, -, -, n, j, -, -, -, -, -, ⟨-, k⟩ | ⟨-, k, -⟩⟩
  · exact stp_same hf k
  · exact stp_same hf k
  · exact absurd k hf
section SC
variable {G : mG} {l : Launch} {r : Nat} {b : Int} {pool : Nat → Int} {S : Nat → Option mO} {h0 : mH} {n : Nat}
theorem Ev.sr {m m' : Nat → Int} (h : Ev m m') (k : SR m) (h60 : m 0 ≤ 60) : SR m' := fun a ha => by
  rw [h.1 0 (Or.inl rfl)] at ha
  rw [h.1 (18 + 4 * a) (by unfold far; omega)]
  exact k a ha
/-- what has happened when a closer's step was done -/
def STP (r : Nat) (b : Int) (pool : Nat → Int) (S : Nat → Option mO) (h0 : mH) (m : Nat → Int) (t z : Nat) (f c : Nat → Int) (g : Nat → Option Nat) (fl : Int) (m1 : Nat → Int) (nx : Option Nat) (ph : Int) (k' : Nat) (h' : mH) : Prop :=
  ∃ f' c' C' nm' g', isR h' r b ((z : Int) + 1) f' c' C' nm' g' ∧ Same (rBlk r) h0 h' ∧ (fl = 0 → CR m1 pool S c' C' nm' g' ∧ g' (2 * t + 1) = nx) ∧ (¬ fl = 0 → CRx 1 (gathersM m1 b fl t) pool S c' C' nm' g' ∧ g' (2 * t + 1) = none) ∧ (∀ j, j ≤ z → f' j = f j) ∧
  (∀ u : Nat, (u : Int) < m 1 → m (258 + 14 * u) = 1 → ¬ u = t → g' (2 * u + 1) = g (2 * u + 1)) ∧ (∀ j, 180 ≤ j → g' j = g j) ∧ (∀ q, 488 ≤ q → (∀ t : Nat, q ≠ 496 + 9 * t) → c' q = c q) ∧ c' 3 = c 3 ∧ c' 4 = c 4 ∧ phi k' m1 ≤ ph
theorem go_step (hS : ∀ a o, S a = some o → hGet h0 a = some o) (hSr : ∀ a, ¬ S a = none → ¬ rBlk r a) (hb : -1 ≤ b ∧ b ≤ 9) (hPo : poolOk pool) {m m1 : Nat → Int} {B : Int} {t z k : Nat} {f c : Nat → Int} {C : Nat → Nat → Int} {nm : Nat → Int64} {g : Nat → Option Nat} {h : mH} (hI : Inv m pool B) (hSR : SR m) (hR : isR h r b ((z : Int) + 1) f c C nm g) (hf : f z = t) (hSm : Same (rBlk r) h0 h) (hC : CR m pool S c C nm g) (ht : (t : Int) < m 1) (hcl : m (258 + 14 * t) = 1) (hz : (z : Int) + 1 ≤ 61 + cnt (cngB m) (m 1).toNat) (hph : phi k m + 1 ≤ 900000)
    {s hi p e kk : Nat} {nx : Option Nat} (hg : g (2 * t + 1) = some s) (hQ : stQ S pool (stL S pool kk false 0) s nx hi p e) (he : ¬ dgP (pool e)) {fl : Int} (hfl : InR fl) (hD : drI pool (clS G l r b pool S h0 n) m p (m (259 + 14 * t)) fl m1) :
    GOES G l r k h (STP r b pool S h0 m t z f c g fl m1 nx (phi k m + 1)) := by
  have hok := hI.1
  have k1 := hok.2.2.1
  have k2 := hok.2.2.2.1
  obtain ⟨hD, -, hEv⟩ := hD
  obtain ⟨n0, T, A, K, L, ⟨Z, e0⟩, ⟨F, f0⟩, Gg, hc, hCC⟩ := id hC
  have ct := cnt_r (cngB m) (m 1).toNat
  have lt := hI.lt ht (by rw [hcl]; decide)
  obtain ⟨t1, t2, -⟩ := T t ht
  have hkk : k < 1000000 := by unfold phi at hph; omega
  obtain ⟨kd, num, vl, y, inn, hs⟩ : ∃ kd num vl y inn, S s = some (stO kd num vl y inn nx) := by
    rcases hQ with ⟨-, num, vl, y, inn, hs, -⟩ | ⟨-, -, -, -, q, b', y, nx2, hs, -⟩
    · exact ⟨_, _, _, _, _, hs⟩
    · exact ⟨_, _, _, _, _, hs⟩
  have hsr := hSr s (by rw [hs]; exact fun q => by cases q)
  have hsh : hGet h s = some (stO kd num vl y inn nx) := (hSm.2.2.2 s hsr).trans (hS s _ hs)
  have ht90 : t < 90 := by omega
  have hct : (t : Int) < c 0 := by rw [n0.1]; exact ht
  have htop : f (((z : Int) + 1).toNat - 1) = (t : Int) := by rw [show ((z : Int) + 1).toNat - 1 = z by omega]; exact hf
  have hC1 : CR m pool S c C nm (updO g (2 * t + 1) nx) := hC.see hok (Int.le_refl _) (fun _ _ => rfl) (fun _ _ => rfl) hc (fun u _ => updO_n (by omega))
  have pf : ∀ h1, isR h1 r b ((z : Int) + 1) f c C nm (updO g (2 * t + 1) nx) → Same (rBlk r) h h1 → RUNM G l 6 mX3_perform [.ref r, .ref s, .int (J (c (33 + 3 * t)))] h1 (fun v h' => PFO pool S (clS G l r b pool S h0 n) r b ((z : Int) + 1) f c C nm (updO g (2 * t + 1) nx) h1 m m1 fl v h') := fun h1 hR1 hS1 => by
    refine pfm_Q hPo hR1 (fun a o ha => ((hSm.trans hS1).2.2.2 a (hSr a (by rw [ha]; exact fun q => by cases q))).trans (hS a o ha)) hSr ⟨by omega, by omega⟩ hC1 hI hSR hQ he (hc _) ?_
    rw [t2]; exact hD
  have og : ∀ u : Nat, ¬ u = t → updO g (2 * t + 1) nx (2 * u + 1) = g (2 * u + 1) := fun u hu => updO_n (by omega)
  by_cases w : fl = 0
  · subst w
    have P := cr_closeStepOk (G := G) (l := l) 5 hR hc hct ht90 hg hsh hsr (R := fun h' => ∃ h1, Same (rBlk r) h h1 ∧ Same (rBlk r) h1 h' ∧ ((∃ c' C' nm' g', isR h' r b ((z : Int) + 1) f c' C' nm' g' ∧ CR m1 pool S c' C' nm' g' ∧ KPs c c' (updO g (2 * t + 1) nx) g') ∨
      (∃ q : Nat, (q : Int) < m 1 ∧ m (258 + 14 * q) = 0 ∧ clS G l r b pool S h0 n m q m1 ∧ isR h' r b ((z : Int) + 1 + 1) (updI f ((z : Int) + 1).toNat (q : Int)) (updI c (32 + 3 * q) 2) C nm (btG (updO g (2 * t + 1) nx) q))))
      (fun h1 hR1 hS1 => (pf h1 hR1 hS1).mono (fun v h' q => by
        obtain ⟨q1, ⟨q2, -⟩ | ⟨-, ⟨c', C', nm', g', q2, q3, q4, q5⟩ | ⟨q, q2, q3, q4, q5, q6⟩⟩⟩ := q
        · exact absurd rfl q2
        · exact ⟨q1, h1, hS1, q3, Or.inl ⟨c', C', nm', g', q2, q4, q5⟩⟩
        · exact ⟨q1, h1, hS1, q6, Or.inr ⟨q, q2, q3, q4, q5⟩⟩))
    refine (go_thing (k := k) hR ⟨by omega, by omega⟩ hkk ht90 htop (P.deeper (by decide))).bind (fun k' h' q => ?_)
    obtain ⟨rfl, h1, s1, s2, q | ⟨q, q2, q3, q4, q5⟩⟩ := q
    · obtain ⟨c', C', nm', g', q1, q2, q3⟩ := q
      refine GOES.rf ⟨f, c', C', nm', g', q1, (hSm.trans s1).trans s2, fun _ => ⟨q2, ?_⟩, fun w => absurd rfl w, fun _ _ => rfl, fun u u1 u2 u3 => ?_, fun j hj => ?_, q3.2.2.1, q3.2.2.2.1, q3.2.2.2.2, ?_⟩
      · rw [q3.1, updO_s]
      · rw [q3.1]; exact og u u3
      · rw [q3.2.1 j hj]; exact updO_n (by omega)
      · have cg := hEv.cng k1.1
        have m2 := hEv.2.2.1.1
        unfold phi
        rw [cg]
        omega
    · obtain ⟨-, sm, -⟩ := q4
      have qt : ¬ q = t := fun e => by rw [e, hcl] at q3; exact absurd q3 (by decide)
      have e1 : ((z : Int) + 1).toNat = z + 1 := by omega
      rw [e1] at q5
      have y1 := CR_cng hC1 hok (Int.le_refl _) (t := q) q2 q3
      refine ((sm hSR (k + 1) (z + 1) _ _ _ _ _ h' (by rw [show ((z + 1 : Nat) : Int) = (z : Int) + 1 by omega]; exact q5) updI_s ((hSm.trans s1).trans s2) y1 (by unfold btG; rw [updO_s, updO_n (show 2 * q ≠ 2 * q + 1 by omega)]) (by omega) ?_)).mono (fun k' h'' q' => ?_)
      · unfold phi at hph ⊢; omega
      · obtain ⟨f', c', C', nm', g', w1, w2, w3, w4, w5, w6⟩ := q'
        obtain ⟨v1, v2, v3, v4, v5⟩ := w5
        have bg : ∀ j, ¬ j = 2 * q + 1 → btG (updO g (2 * t + 1) nx) q j = updO g (2 * t + 1) nx j := fun j hj => by unfold btG; exact updO_n hj
        have uc : ∀ j, ¬ j = 32 + 3 * q → updI c (32 + 3 * q) 2 j = c j := fun j hj => updI_n hj
        refine ⟨f', c', C', nm', g', by rw [show ((z + 1 : Nat) : Int) = (z : Int) + 1 by omega] at w1; exact w1, w2, fun _ => ⟨w3, ?_⟩, fun w => absurd rfl w, fun j hj => ?_, fun u u1 u2 u3 => ?_, fun j hj => ?_, fun j hj hj2 => ?_, ?_, ?_, ?_⟩
        · rw [v1 t ht hcl, bg _ (by omega), updO_s]
        · rw [w4 j (by omega)]; exact updI_n (by omega)
        · have uq : ¬ u = q := fun e => by rw [e, q3] at u2; exact absurd u2 (by decide)
          rw [v1 u u1 u2, bg _ (by omega)]; exact og u u3
        · rw [v2 j hj, bg _ (by omega)]; exact updO_n (by omega)
        · rw [v3 j hj hj2]; exact uc j (by omega)
        · rw [v4]; exact uc 3 (by omega)
        · rw [v5]; exact uc 4 (by omega)
        · unfold phi at w6 ⊢; omega
  · have fb := f0.2.1
    have P := cr_closeStepFault (G := G) (l := l) 5 hR hc hct ht90 hg hsh hsr f0.1.1 f0.1.2.1 f0.1.2.2 (by omega) hfl w
      (fun h1 hR1 hS1 => (pf h1 hR1 hS1).mono (fun v h' q => by
        obtain ⟨q1, ⟨-, -, q2⟩ | ⟨q2, -⟩⟩ := q
        · exact ⟨q1, q2⟩
        · exact absurd q2 w))
    have hm1 : m1 = m := pf_same w hD
    subst hm1
    refine (go_thing (k := k) hR ⟨by omega, by omega⟩ hkk ht90 htop (P.deeper (by decide))).mono (fun k' h' q => ?_)
    obtain ⟨rfl, q1, q2⟩ := q
    have y := CR_gath hC1 hok (by omega) (t := t) (by omega) hb hfl (F := F) f0.1.1
    have uo : ∀ j, ¬ j = 2 * t + 1 → updO (updO g (2 * t + 1) nx) (2 * t + 1) none j = g j := fun j hj => by rw [updO_n hj, updO_n hj]
    have uc : ∀ j, ¬ j = 11 → ¬ j = 12 → ¬ j = 13 → gaC c F j = c j := fun j a d e => by unfold gaC; rw [updI_n (by omega), updI_n (by omega), updI_n (by omega)]
    refine ⟨f, gaC c F, gaD C F fl (t : Int) b, nm, _, q1, hSm.trans q2, fun g0 => absurd g0 w, fun _ => ⟨?_, updO_s⟩, fun _ _ => rfl, fun u u1 u2 u3 => uo _ (by omega), fun j hj => uo _ (by omega), fun j hj hj2 => uc j (by omega) (by omega) (by omega), uc 3 (by omega) (by omega) (by omega), uc 4 (by omega) (by omega) (by omega), ?_⟩
    · obtain ⟨n0', T', A', K', L', E', ⟨F', f0'⟩, Gg', R'⟩ := y
      exact ⟨n0', T', A', K', L', E', ⟨F', f0'⟩, fun u hu => by
        obtain ⟨P', E'', a1, a2, a3⟩ := Gg' u hu
        refine ⟨P', E'', a1, a2, ?_⟩
        rw [updO_n (by omega)] at a3
        rw [uo _ (by omega)]
        exact a3, R'⟩
    · unfold phi; omega
theorem loop_inv {t E : Nat} {cl : (Nat → Int) → Nat → (Nat → Int) → Prop} : ∀ (kf : Nat) (m m2 : Nat → Int) (B : Int) (p : Nat) (fl : Int), Inv m pool B → loopR pool (drI pool cl) t E kf m p fl m2 → Ev m m2 ∧ ∃ B, Inv m2 pool B
  | 0, m, m2, B, p, fl, hI, hL => by
    rw [hL.2.2]; exact ⟨Ev.rf, B, hI⟩
  | kf + 1, m, m2, B, p, fl, hI, hL => by
    rcases hL with ⟨a1, a2, a3⟩ | ⟨a1, f1, m1, ⟨-, ⟨B1, a2⟩, a5⟩, a3, a4⟩
    · rw [a3]; exact ⟨Ev.rf, B, hI⟩
    · rcases a4 with ⟨-, -, a4⟩ | ⟨-, a4⟩
      · rw [a4]; exact ⟨a5, B1, a2⟩
      · obtain ⟨x, y⟩ := loop_inv kf m1 m2 B1 _ fl a2 a4
        exact ⟨a5.tr x, y⟩
/-- where a closer goes on: nowhere, or at a step -/
def rsO (S : Nat → Option mO) (pool : Nat → Int) (r : Option Nat) (p E : Nat) : Prop := (E ≤ p ∧ r = none) ∨ (∃ s hi n, r = some s ∧ stL S pool n false 0 s hi p E)
theorem sim_loop (hS : ∀ a o, S a = some o → hGet h0 a = some o) (hSr : ∀ a, ¬ S a = none → ¬ rBlk r a) (hb : -1 ≤ b ∧ b ≤ 9) (hPo : poolOk pool) {t z E : Nat} : ∀ (kf : Nat) (m m2 : Nat → Int) (B : Int) (k p : Nat) (fl : Int) (f c : Nat → Int) (C : Nat → Nat → Int) (nm : Nat → Int64) (g : Nat → Option Nat) (h : mH), Inv m pool B → SR m → isR h r b ((z : Int) + 1) f c C nm g → f z = t → Same (rBlk r) h0 h → CR m pool S c C nm g → (t : Int) < m 1 → m (258 + 14 * t) = 1 → (z : Int) + 1 ≤ 61 + cnt (cngB m) (m 1).toNat → phi k m + ((E + 1 : Nat) : Int) - p ≤ 900000 → p ≤ E + 1 → rsO S pool (g (2 * t + 1)) p E →
    loopR pool (drI pool (clS G l r b pool S h0 n)) t E kf m p fl m2 → GOES G l r k h (STP r b pool S h0 m t z f c g fl m2 none (phi k m + ((E + 1 : Nat) : Int) - p)) ∧ Ev m m2 ∧ ∃ B, Inv m2 pool B
  | kf, m, m2, B, k, p, fl, f, c, C, nm, g, h, hI, hSR, hR, hf, hSm, hC, ht, hcl, hz, hph, hpE, hp, hL => by
    have stop : E ≤ p → fl = 0 → m2 = m → GOES G l r k h (STP r b pool S h0 m t z f c g fl m2 none (phi k m + ((E + 1 : Nat) : Int) - p)) ∧ Ev m m2 ∧ ∃ B, Inv m2 pool B := fun a1 a2 a3 => by
      subst a3
      subst a2
      rcases hp with ⟨-, b2⟩ | ⟨s, hi, nn, -, b3⟩
      · exact ⟨GOES.rf ⟨f, c, C, nm, g, hR, hSm, fun _ => ⟨hC, b2⟩, fun w => absurd rfl w, fun _ _ => rfl, fun _ _ _ _ => rfl, fun _ _ => rfl, fun _ _ _ => rfl, rfl, rfl, by omega⟩, Ev.rf, B, hI⟩
      · have := stL_lt b3; omega
    cases kf with
    | zero => exact stop hL.1 hL.2.1 hL.2.2
    | succ kf =>
      rcases hL with ⟨a1, a2, a3⟩ | ⟨a1, f1, m1, a2, a3, a4⟩
      · exact stop a1 a2 a3
      · rcases hp with ⟨b1, -⟩ | ⟨s, hi, nn, b2, b3⟩
        · omega
        · cases nn with
          | zero => exact b3.elim
          | succ nn =>
            obtain ⟨nx, mid, e, o', c1, c2, c3, c4⟩ := b3
            have hQ : stQ S pool (stL S pool nn false 0) s nx mid p e := by
              rcases c1 with ⟨c1, -⟩ | ⟨c1, -⟩ | ⟨c1, -⟩
              · exact c1
              · cases c1
              · cases c1
            have lt := stepQ_lt (stQ_t (fun b q r g => stL_tC nn 0 b mid q r g) hQ)
            have heE : e ≤ E := by rcases c4 with c4 | ⟨c4, -⟩ <;> omega
            have hbe := (stepQ_skip (fun a b => stsC_skip nn a b) (stQ_t (fun b q r g => stL_tC nn 0 b mid q r g) hQ)).beh (E := E) heE (by rcases c4 with c4 | ⟨_, c4, _⟩; exact Or.inl c4.1; exact Or.inr c4)
            have step := go_step (n := n) hS hSr hb hPo hI hSR hR hf hSm hC ht hcl hz (k := k) (by omega) b2 hQ (endC_nd c3) a3 a2
            obtain ⟨-, ⟨B1, hI1⟩, hE1⟩ := a2
            have k0 := hI.1.2.1
            have k1 := hI.1.2.2.1
            rcases a4 with ⟨a4, rfl, rfl⟩ | ⟨rfl, a5⟩
            · refine ⟨step.mono (fun k' h' q => ?_), hE1, B1, hI1⟩
              obtain ⟨f', c', C', nm', g', q1, q2, q3, q4, q5, q6, q7, q8, q9, q10, q11⟩ := q
              exact ⟨f', c', C', nm', g', q1, q2, fun w => absurd w a4, q4, q5, q6, q7, q8, q9, q10, by omega⟩
            · rw [hbe] at a5
              have ht1 : (t : Int) < m1 1 := by have := hE1.2.1; omega
              have hcl1 : m1 (258 + 14 * t) = 1 := (hE1.2.2.2.1 t ht).2.2.1.mpr hcl
              have hcg := hE1.cng k1.1
              have sr1 := hE1.sr hSR k0.2
              have rest : ∀ (k' : Nat) (h' : mH) (f' c' : Nat → Int) (C' : Nat → Nat → Int) (nm' : Nat → Int64) (g' : Nat → Option Nat), isR h' r b ((z : Int) + 1) f' c' C' nm' g' → f' z = t → Same (rBlk r) h0 h' → CR m1 pool S c' C' nm' g' → g' (2 * t + 1) = nx → phi k' m1 ≤ phi k m + 1 → GOES G l r k' h' (STP r b pool S h0 m1 t z f' c' g' fl m2 none (phi k' m1 + ((E + 1 : Nat) : Int) - ((e + 1 : Nat) : Int))) ∧ Ev m1 m2 ∧ ∃ B, Inv m2 pool B := fun k' h' f' c' C' nm' g' q1 q2 q3 q4 q5 q6 => by
                refine sim_loop hS hSr hb hPo kf m1 m2 B1 k' (e + 1) fl f' c' C' nm' g' h' hI1 sr1 q1 q2 q3 q4 ht1 hcl1 (by rw [hcg]; exact hz) (by omega) (by omega) ?_ a5
                rcases c4 with ⟨c4, c5⟩ | ⟨c4, c5, b', c6, c7, c8⟩
                · exact Or.inl ⟨by omega, by rw [q5]; exact c5⟩
                · exact Or.inr ⟨b', hi, nn, by rw [q5]; exact c6, stL_o nn o' _ _ _ _ c8⟩
              have ev2 : Ev m1 m2 ∧ ∃ B, Inv m2 pool B := loop_inv kf m1 m2 B1 (e + 1) fl hI1 a5
              refine ⟨step.bind (fun k' h' q => ?_), hE1.tr ev2.1, ev2.2⟩
              obtain ⟨f', c', C', nm', g', q1, q2, q3, q4, q5, q6, q7, q8, q9, q10, q11⟩ := q
              obtain ⟨q3, qn⟩ := q3 rfl
              refine (rest k' h' f' c' C' nm' g' q1 (by rw [q5 z (Nat.le_refl _)]; exact hf) q2 q3 qn q11).1.mono (fun k'' h'' w => ?_)
              obtain ⟨f'', c'', C'', nm'', g'', w1, w2, w3, w4, w5, w6, w7, w8, w9, w10, w11⟩ := w
              refine ⟨f'', c'', C'', nm'', g'', w1, w2, w3, w4, fun j hj => (w5 j hj).trans (q5 j hj), fun u u1 u2 u3 => (w6 u (by have := hE1.2.1; omega) ((hE1.2.2.2.1 u u1).2.2.1.mpr u2) u3).trans (q6 u u1 u2 u3), fun j hj => (w7 j hj).trans (q7 j hj), fun j hj hj2 => (w8 j hj hj2).trans (q8 j hj hj2), w9.trans q9, w10.trans q10, by omega⟩
end SC
end mg_a3
section mg_a4
/-! ===== closings: the class's rounds beside the reference's closes ===== -/
section SC2
variable {G : mG} {l : Launch} {r : Nat} {b : Int} {pool : Nat → Int} {S : Nat → Option mO} {h0 : mH} {n : Nat}
theorem sim_closes (hS : ∀ a o, S a = some o → hGet h0 a = some o) (hSr : ∀ a, ¬ S a = none → ¬ rBlk r a) (hb : -1 ≤ b ∧ b ≤ 9) (hPo : poolOk pool) {m m' : Nat → Int} {t : Nat} {B : Int} (hI : Inv m pool B) (ht : (t : Int) < m 1) (h0t : m (258 + 14 * t) = 0) (hEv : Ev m m') (hD : clI pool b (clS G l r b pool S h0 n) m t m') : SIMC G l r b pool S h0 m t m' := by
  intro hSR k z f c C nm g h hR hf hSm hC hgt hz hph
  obtain ⟨hok, -, ⟨x, -⟩ | ⟨-, p, E, kf, fl, m2, d1, d2, d3, d4, hL, ok2m, hfl, d5, d6, d7, rfl⟩⟩ := hD
  · exact absurd h0t x
  have k0 := hok.2.1
  have k1 := hok.2.2.1
  obtain ⟨i1, i2⟩ := inv_cng hI ht h0t
  have um : ∀ q, ¬ q = 258 + 14 * t → updI m (258 + 14 * t) 1 q = m q := fun q a => updI_n a
  have sr1 : SR (updI m (258 + 14 * t) 1) := fun a ha => by
    rw [um 0 (by omega)] at ha
    rw [um _ (by omega)]; exact hSR a ha
  obtain ⟨-, -, -, P, E', e1, e2, hx⟩ := hI.2.2.1 t ht
  have hx1 := hx.1
  have hx2 := hx.2.1
  have hP : P = p := by omega
  have hE : E' = E := by omega
  subst hP
  subst hE
  have rs : rsO S pool (g (2 * t + 1)) P E' := by
    obtain ⟨P2, E2, a1, a2, a3⟩ := hC.2.2.2.2.2.2.2.1 t (by rw [um 1 (by omega)]; exact ht)
    rw [um _ (by omega)] at a1 a2
    have : P2 = P := by omega
    subst this
    have : E2 = E' := by omega
    subst this
    rw [hgt]
    rcases a3 with ⟨a3, a4⟩ | ⟨s, hi, nn, a3, a4⟩
    · exact Or.inl ⟨by omega, a4⟩
    · exact Or.inr ⟨s, hi, nn, a3, a4⟩
  have ph1 : phi k (updI m (258 + 14 * t) 1) = phi k m - 150 := by
    unfold phi
    rw [um 1 (by omega), um 2 (by omega), i2]
    omega
  have ct := cnt_r (cngB (updI m (258 + 14 * t) 1)) (m 1).toNat
  obtain ⟨go, ev2, B2, hI2⟩ := sim_loop (n := n) hS hSr hb hPo kf (updI m (258 + 14 * t) 1) m2 B k P fl f c C nm g h i1 sr1 hR hf hSm hC (by rw [um 1 (by omega)]; exact ht) updI_s (by rw [um 1 (by omega), i2]; omega) (by rw [ph1]; omega) (by omega) rs hL
  have ht2 : (t : Int) < m2 1 := by have := ev2.2.1; rw [um 1 (by omega)] at this; omega
  have hc2 : m2 (258 + 14 * t) = 1 := (ev2.2.2.2.1 t (by rw [um 1 (by omega)]; exact ht)).2.2.1.mpr updI_s
  have lt2 := hI2.lt ht2 (by rw [hc2]; decide)
  have k12 := hI2.1.2.2.1
  have k22 := hI2.1.2.2.2.1
  refine go.bind (fun k' h' q => ?_)
  obtain ⟨f', c', C', nm', g', q1, q2, q3, q4, q5, q6, q7, q8, q9, q10, q11⟩ := q
  obtain ⟨M, hM⟩ : ∃ M, M = (if fl = 0 then m2 else gathersM m2 b fl t) := ⟨_, rfl⟩
  rw [← hM]
  have hCM : CRx 1 M pool S c' C' nm' g' ∧ g' (2 * t + 1) = none := by
    rw [hM]
    by_cases w : fl = 0
    · rw [if_pos w]; exact ⟨(q3 w).1.one, (q3 w).2⟩
    · rw [if_neg w]; exact q4 w
  have gM : (∀ q, InR (M q)) ∧ (∀ q, ¬ q = 4 → ¬ q = 5 → (q < 2328 ∨ 2928 ≤ q) → M q = m2 q) ∧ (M 4 = m2 4 ∨ M 4 = m2 4 + 1) ∧ (M 5 = m2 5 ∨ M 5 = m2 5 + 1) := by
    rw [hM]
    by_cases w : fl = 0
    · rw [if_pos w]; exact ⟨hI2.1.1, fun _ _ _ _ => rfl, Or.inl rfl, Or.inl rfl⟩
    · rw [if_neg w]; exact inv_gath hI2 (by omega) ⟨by omega, by omega⟩ hfl lt2.2.2.1 lt2.2.2.2
  obtain ⟨gM1, gM2, gM4, gM5⟩ := gM
  have mo : mOk M := by
    obtain ⟨a0, a1, a2, a3, a4, a5, a6, a7⟩ := hI2.1
    refine ⟨gM1, by rw [gM2 0 (by omega) (by omega) (by omega)]; exact a1, by rw [gM2 1 (by omega) (by omega) (by omega)]; exact a2, by rw [gM2 2 (by omega) (by omega) (by omega)]; exact a3, by rw [gM2 3 (by omega) (by omega) (by omega)]; exact a4, by omega, by omega, fun u hu => ?_⟩
    rw [gM2 1 (by omega) (by omega) (by omega)] at hu
    rw [gM2 _ (by omega) (by omega) (by omega)]; exact a7 u hu
  have M1 : M 1 = m2 1 := gM2 1 (by omega) (by omega) (by omega)
  have M2 : M 2 = m2 2 := gM2 2 (by omega) (by omega) (by omega)
  have Mt : M (258 + 14 * t) = 1 := by rw [gM2 _ (by omega) (by omega) (by omega)]; exact hc2
  obtain ⟨hCM, hgn⟩ := hCM
  obtain ⟨n0, T, A, K, L, ⟨Z, e0⟩, ⟨F, f0⟩, Gg, hc, hCC⟩ := id hCM
  obtain ⟨Lg, hLg⟩ : ∃ Lg : Nat, c' 9 = Lg := ⟨(c' 9).toNat, by rw [n0.2.2.2.2, M2]; omega⟩
  have er := e0.2.1
  have k0M := mo.2.1
  have k1M := mo.2.2.1
  have n9 := n0.2.2.2.2
  have cg2 := ev2.cng (by rw [um 1 (by omega)]; omega)
  rw [um 1 (by omega), i2] at cg2
  have cg' := hEv.cng k1.1
  have hkb : k' < 1000000 := by unfold phi at q11 hph; rw [cg2] at q11; unfold phi at ph1; omega
  have P1 := cr_closedNow (G := G) (l := l) 10 q1 hc (t := t) (by rw [n0.1, M1]; exact ht2) (by omega) hLg (by omega) e0.1 (by omega) (hCC 2) ⟨by omega, by omega⟩ (by omega) hgn
  refine (go_thing (k := k') q1 ⟨by omega, by omega⟩ hkb (by omega) (by rw [show ((z : Int) + 1).toNat - 1 = z by omega, q5 z (Nat.le_refl _)]; exact hf) P1).mono (fun k'' h'' w => ?_)
  obtain ⟨rfl, w1, w2⟩ := w
  have y := CR_closed hCM mo (by omega) (t := t) (by omega) Mt hLg e0.1
  obtain ⟨u2, ust, uo⟩ := closedM_at (m := M) (t := t) ⟨by omega, by omega⟩ (by omega)
  have gc : ∀ q, ¬ q = 32 + 3 * t → ¬ q = 34 + 3 * t → ¬ q = 9 → ¬ q = 10 → gcC c' t Lg (cnt (notB (t : Int) (C' 2)) Z) q = c' q := fun q a b d e => by
    unfold gcC
    rw [updI_n (by omega), updI_n (by omega), updI_n (by omega), updI_n (by omega)]
  refine ⟨f', _, _, nm', g', by rw [show (z : Int) + 1 - 1 = z by omega] at w1; exact w1, q2.trans w2, y, fun j hj => q5 j (by omega), ⟨fun u u1 u3 => ?_, q7, fun q hq hq2 => ?_, ?_, ?_⟩, ?_⟩
  · have ut : ¬ u = t := fun e => by rw [e, h0t] at u3; exact absurd u3 (by decide)
    exact q6 u (by rw [um 1 (by omega)]; exact u1) (by rw [um _ (by omega)]; exact u3) ut
  · rw [gc q (by omega) (by omega) (by omega) (by omega)]; exact q8 q hq hq2
  · rw [gc 3 (by omega) (by omega) (by omega) (by omega)]; exact q9
  · rw [gc 4 (by omega) (by omega) (by omega) (by omega)]; exact q10
  · have cg3 : cnt (cngB (closedM M t)) ((closedM M t) 1).toNat = cnt (cngB m) (m 1).toNat := by rw [hM]; exact cg'
    unfold phi
    rw [cg3, u2, M2]
    unfold phi at q11
    rw [cg2] at q11
    have p1 := ph1
    unfold phi at p1
    omega
theorem simC_all (hS : ∀ a o, S a = some o → hGet h0 a = some o) (hSr : ∀ a, ¬ S a = none → ¬ rBlk r a) (hb : -1 ≤ b ∧ b ≤ 9) (hPo : poolOk pool) : ∀ n, CXG (clS G l r b pool S h0 n) pool n
  | 0 => fun m t B h hB hn ht h0 => by
    have k1 := h.1.2.2.1
    have := cnt_cl_cng (m := m) (N := (m 1).toNat) (t := t) (by omega) h0
    omega
  | n + 1 => fun m t B h hB hn ht h0t => by
    obtain ⟨m', a, a2, a3, a4, a5⟩ := closes_exI (sink := b) hPo ⟨by omega, by omega⟩ (simC_all hS hSr hb hPo n) m t B h hB hn ht h0t
    exact ⟨m', ⟨clI_mo (cl := clS G l r b pool S h0 n) (fun _ _ _ x => x.1) a, sim_closes hS hSr hb hPo h ht h0t a3 a, a3⟩, a2, a3, a4, a5⟩
end SC2
end mg_a4

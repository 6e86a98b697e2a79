section mg_9w
/-! ===== the class's world beside the reference's row ===== -/
/-- more objects -/
theorem stA_S {S S' : Nat → Option mO} (hS : ∀ a o, S a = some o → S' a = some o) {sr : Nat → Int} {cl cl' : Nat → Nat → Nat → Nat → Prop} {a hi p e : Nat} {nx : Option Nat} (hcl : ∀ b q r, cl b hi q r → cl' b hi q r) (k : stA S sr cl a nx hi p e) : stA S' sr cl' a nx hi p e :=
  stA_c (Nat.le_refl _) (fun b q r _ g => hcl b q r g) (fun kd num vl y inn g => hS _ _ g) k
theorem stQ_S {S S' : Nat → Option mO} (hS : ∀ a o, S a = some o → S' a = some o) {sr : Nat → Int} {cl cl' : Nat → Nat → Nat → Nat → Prop} {a hi p e : Nat} {nx : Option Nat} (hcl : ∀ b q r, cl b hi q r → cl' b hi q r) (k : stQ S sr cl a nx hi p e) : stQ S' sr cl' a nx hi p e := by
  rcases k with k | ⟨k0, k1, k2, k3, q, b, y, nx2, k4, k5, k6, k7, k8⟩
  · exact Or.inl (stA_S hS hcl k)
  · exact Or.inr ⟨k0, k1, k2, k3, q, b, y, nx2, hS _ _ k4, k5, k6, k7, stA_S hS hcl k8⟩
theorem stL_S {S S' : Nat → Option mO} (hS : ∀ a o, S a = some o → S' a = some o) {sr : Nat → Int} : ∀ (n : Nat) (it : Bool) (o a hi p E : Nat), stL S sr n it o a hi p E → stL S' sr n it o a hi p E
  | 0, _, _, _, _, _, _, h => h.elim
  | n + 1, it, o, a, hi, p, E, h => by
    obtain ⟨nx, mid, e, o', h1, h2, h3, h4⟩ := h
    refine ⟨nx, mid, e, o', ?_, h2, h3, ?_⟩
    · rcases h1 with ⟨k, ko⟩ | ⟨k0, k1, k2, k3, k4, num, vl, y, inn, k5⟩ | ⟨k0, k1, k2, k3, k4, num, vl, y, inn, k5⟩
      · exact Or.inl ⟨stQ_S hS (fun b q r g => stL_S hS n false 0 b mid q r g) k, ko⟩
      · exact Or.inr (Or.inl ⟨k0, k1, k2, k3, k4, num, vl, y, inn, hS _ _ k5⟩)
      · exact Or.inr (Or.inr ⟨k0, k1, k2, k3, k4, num, vl, y, inn, hS _ _ k5⟩)
    · rcases h4 with h4 | ⟨h4, h5, b, h6, h7, h8⟩
      · exact Or.inl h4
      · exact Or.inr ⟨h4, h5, b, h6, h7, stL_S hS n it o' b hi (e + 1) E h8⟩
def swT (s : Int) : Int := if s = 1 then 2 else if s = 2 then 1 else s
theorem swT_0 {s : Int} (h : 0 ≤ s ∧ s ≤ 2) : swT s = 0 ↔ s = 0 := by unfold swT; split <;> (try split) <;> omega
def nmR (m : Nat → Int) (t : Nat) : Int64 := nmY m (265 + 14 * t) (265 + 14 * t + (m (261 + 14 * t)).toNat)
def nmOk (m : Nat → Int) (t : Nat) : Prop := (1 ≤ m (261 + 14 * t) ∧ m (261 + 14 * t) ≤ 7) ∧ ∀ j : Nat, (j : Int) < m (261 + 14 * t) → isLt (m (265 + 14 * t + j))
/-- a closer's text, or that there is none -/
def tpO (S : Nat → Option mO) (pool : Nat → Int) (r : Option Nat) (P E : Nat) : Prop := (P = E ∧ r = none) ∨ (∃ b hi n, r = some b ∧ stL S pool n false 0 b hi P E)
def crN (m c : Nat → Int) : Prop := c 0 = m 1 ∧ c 1 = m 0 ∧ c 2 = m 3 ∧ c 8 = 8 ∧ c 9 = m 2
def crT (m c : Nat → Int) (nm : Nat → Int64) : Prop := ∀ t : Nat, (t : Int) < m 1 → c (32 + 3 * t) = swT (m (258 + 14 * t)) ∧ c (33 + 3 * t) = m (259 + 14 * t) ∧ c (34 + 3 * t) = m (264 + 14 * t) ∧ nm t = nmR m t ∧ nmOk m t
def crS (m c : Nat → Int) : Prop := ∀ a : Nat, (a : Int) < m 0 → c (304 + 3 * a) = swT (m (18 + 4 * a)) ∧ c (305 + 3 * a) = m (19 + 4 * a) ∧ c (306 + 3 * a) = m (21 + 4 * a)
def crK (m c : Nat → Int) : Prop := ∀ q : Nat, (q : Int) < m 3 → c (489 + 9 * q) = m (1610 + 72 * q) ∧ c (496 + 9 * q) = m (1614 + 72 * q)
def crL (m : Nat → Int) (C : Nat → Nat → Int) : Prop := (∀ k : Nat, k < 8 → C 0 k = m (10 + k)) ∧ ∀ k : Nat, (k : Int) < m 2 → C 1 k = m (1518 + k)
/-- an entry of some scope -/
def nodP (m : Nat → Int) (e : Int) : Prop := (∃ t : Nat, e = t ∧ (t : Int) < m 1 ∧ ¬ m (258 + 14 * t) = 2) ∨ (∃ a : Nat, e = 100 + (a : Int) ∧ 1 ≤ a ∧ (a : Int) < m 0 ∧ ¬ m (18 + 4 * a) = 2)
def crE (m c f : Nat → Int) (Z : Nat) : Prop := c 10 = Z ∧ (Z : Int) + 1 ≤ m 1 + m 0 ∧ (∀ j, j < Z → nodP m (f j)) ∧ (∀ j k, j < k → k < Z → stampI m (f j) < stampI m (f k)) ∧ (∀ e, nodP m e → ∃ j, j < Z ∧ f j = e) ∧ (∀ e, nodP m e → stampI m e ≤ m 6)
def faB (f : Nat → Int) (j : Nat) : Bool := decide (0 ≤ f j)
def crF (m c : Nat → Int) (C : Nat → Nat → Int) (x : Int) (F : Nat) : Prop := (c 11 = F ∧ c 12 = F ∧ c 13 = F) ∧ (F : Int) ≤ m 2 + x ∧ (0 ≤ c 4 ∧ c 4 ≤ F) ∧ m 4 = cnt (faB (C 5)) F ∧ (∀ j, j < F → 0 ≤ C 5 j → m (2328 + 3 * (cnt (faB (C 5)) j).toNat) = C 5 j ∧ m (2329 + 3 * (cnt (faB (C 5)) j).toNat) = C 3 j ∧ m (2330 + 3 * (cnt (faB (C 5)) j).toNat) = C 4 j) ∧ m 5 = cnt (gbB (c 4).toNat (C 5) (-1)) F ∧ (∀ j : Nat, j < F → c 4 ≤ j → C 5 j = -1 → m (2688 + 2 * (cnt (gbB (c 4).toNat (C 5) (-1)) j).toNat) = C 3 j ∧ m (2689 + 2 * (cnt (gbB (c 4).toNat (C 5) (-1)) j).toNat) = C 4 j)
def crG (m pool : Nat → Int) (S : Nat → Option mO) (g : Nat → Option Nat) : Prop := ∀ t : Nat, (t : Int) < m 1 → ∃ P E : Nat, m (262 + 14 * t) = P ∧ m (263 + 14 * t) = E ∧ tpO S pool (g (2 * t)) P E
def crR (c : Nat → Int) (C : Nat → Nat → Int) : Prop := (∀ q, InR (c q)) ∧ ∀ k q, InR (C k q)
def CRx (x : Int) (m pool : Nat → Int) (S : Nat → Option mO) (c : Nat → Int) (C : Nat → Nat → Int) (nm : Nat → Int64) (g : Nat → Option Nat) : Prop :=
  crN m c ∧ crT m c nm ∧ crS m c ∧ crK m c ∧ crL m C ∧ (∃ Z, crE m c (C 2) Z) ∧ (∃ F, crF m c C x F) ∧ crG m pool S g ∧ crR c C
abbrev CR (m pool : Nat → Int) (S : Nat → Option mO) (c : Nat → Int) (C : Nat → Nat → Int) (nm : Nat → Int64) (g : Nat → Option Nat) : Prop := CRx 0 m pool S c C nm g
/-! what the relation looks at -/
theorem nmR_c {m m' : Nat → Int} {t : Nat} (h1 : m' (261 + 14 * t) = m (261 + 14 * t)) (h7 : m (261 + 14 * t) ≤ 7) (h2 : ∀ j, j < 7 → m' (265 + 14 * t + j) = m (265 + 14 * t + j)) : nmR m' t = nmR m t := by
  unfold nmR nmY nmN
  rw [h1]
  have e : cdN (nmG m' (265 + 14 * t) (265 + 14 * t + (m (261 + 14 * t)).toNat)) 7 = cdN (nmG m (265 + 14 * t) (265 + 14 * t + (m (261 + 14 * t)).toNat)) 7 := cdN_c 7 (fun j hj => by
    unfold nmG
    by_cases c : 265 + 14 * t + j < 265 + 14 * t + (m (261 + 14 * t)).toNat
    · rw [if_pos c, if_pos c, h2 j hj]
    · rw [if_neg c, if_neg c])
  rw [e]
theorem nmOk_c {m m' : Nat → Int} {t : Nat} (h1 : m' (261 + 14 * t) = m (261 + 14 * t)) (h2 : ∀ j, j < 7 → m' (265 + 14 * t + j) = m (265 + 14 * t + j)) (h : nmOk m t) : nmOk m' t := by
  unfold nmOk at h ⊢
  rw [h1]
  exact ⟨h.1, fun j hj => by rw [h2 j (by omega)]; exact h.2 j hj⟩
theorem stampI_t {m : Nat → Int} {t : Nat} (h : t < 100) : stampI m (t : Int) = m (260 + 14 * t) := by
  unfold stampI; rw [if_pos (by omega)]; congr 1
theorem stampI_s {m : Nat → Int} {a : Nat} : stampI m (100 + (a : Int)) = m (20 + 4 * a) := by
  unfold stampI; rw [if_neg (by omega)]; congr 1; omega
theorem nodP_c {m m' : Nat → Int} {e : Int} (h0 : m' 0 = m 0) (h1 : m' 1 = m 1) (hT : ∀ t : Nat, (t : Int) < m 1 → (m' (258 + 14 * t) = 2 ↔ m (258 + 14 * t) = 2)) (hS : ∀ a : Nat, 1 ≤ a → (a : Int) < m 0 → (m' (18 + 4 * a) = 2 ↔ m (18 + 4 * a) = 2)) : nodP m' e ↔ nodP m e := by
  unfold nodP
  rw [h0, h1]
  constructor
  · rintro (⟨t, a, b, c⟩ | ⟨t, a, d, b, c⟩)
    · exact Or.inl ⟨t, a, b, fun z => c ((hT t b).mpr z)⟩
    · exact Or.inr ⟨t, a, d, b, fun z => c ((hS t d b).mpr z)⟩
  · rintro (⟨t, a, b, c⟩ | ⟨t, a, d, b, c⟩)
    · exact Or.inl ⟨t, a, b, fun z => c ((hT t b).mp z)⟩
    · exact Or.inr ⟨t, a, d, b, fun z => c ((hS t d b).mp z)⟩
theorem stampI_c {m m' : Nat → Int} {e : Int} (h1 : m 1 ≤ 90) (hT : ∀ t : Nat, (t : Int) < m 1 → m' (260 + 14 * t) = m (260 + 14 * t)) (hS : ∀ a : Nat, 1 ≤ a → (a : Int) < m 0 → m' (20 + 4 * a) = m (20 + 4 * a)) (k : nodP m e) : stampI m' e = stampI m e := by
  rcases k with ⟨t, rfl, b, -⟩ | ⟨a, rfl, d, b, -⟩
  · rw [stampI_t (by omega), stampI_t (by omega)]; exact hT t b
  · rw [stampI_s, stampI_s]; exact hS a d b
theorem crE_c {m m' c c' f : Nat → Int} {Z : Nat} (h : crE m c f Z) (hk : m 1 ≤ 90) (hc : c' 10 = c 10) (h0 : m' 0 = m 0) (h1 : m' 1 = m 1) (h6 : m' 6 = m 6) (hT : ∀ t : Nat, (t : Int) < m 1 → (m' (258 + 14 * t) = 2 ↔ m (258 + 14 * t) = 2) ∧ m' (260 + 14 * t) = m (260 + 14 * t)) (hS : ∀ a : Nat, 1 ≤ a → (a : Int) < m 0 → (m' (18 + 4 * a) = 2 ↔ m (18 + 4 * a) = 2) ∧ m' (20 + 4 * a) = m (20 + 4 * a)) : crE m' c' f Z := by
  obtain ⟨e1, e2, e3, e4, e5, e6⟩ := h
  have nd : ∀ e, nodP m' e ↔ nodP m e := fun e => nodP_c h0 h1 (fun t a => (hT t a).1) (fun a b d => (hS a b d).1)
  have sp : ∀ e, nodP m e → stampI m' e = stampI m e := fun e => stampI_c hk (fun t a => (hT t a).2) (fun a b d => (hS a b d).2)
  refine ⟨by rw [hc]; exact e1, by rw [h0, h1]; exact e2, fun j hj => (nd _).mpr (e3 j hj), fun j k a b => ?_, fun e he => e5 e ((nd e).mp he), fun e he => ?_⟩
  · rw [sp _ (e3 j (by omega)), sp _ (e3 k b)]; exact e4 j k a b
  · have := (nd e).mp he
    rw [sp e this, h6]; exact e6 e this
theorem crF_c {m m' c c' : Nat → Int} {C C' : Nat → Nat → Int} {x : Int} {F : Nat} (h : crF m c C x F) (hF : F ≤ 90) (h11 : c' 11 = c 11) (h12 : c' 12 = c 12) (h13 : c' 13 = c 13) (h4c : c' 4 = c 4) (h2 : m' 2 = m 2) (h4 : m' 4 = m 4) (h5 : m' 5 = m 5) (hm : ∀ q, 2328 ≤ q → q < 2928 → m' q = m q) (C3 : C' 3 = C 3) (C4 : C' 4 = C 4) (C5 : C' 5 = C 5) : crF m' c' C' x F := by
  obtain ⟨f1, f2, f3, f4, f5, f6, f7⟩ := h
  unfold crF
  rw [h11, h12, h13, h4c, h2, h4, h5, C3, C4, C5]
  refine ⟨f1, f2, f3, f4, fun j a b => ?_, f6, fun j a b d => ?_⟩
  · have r := cnt_r (faB (C 5)) j
    rw [hm _ (by omega) (by omega), hm _ (by omega) (by omega), hm _ (by omega) (by omega)]
    exact f5 j a b
  · have r := cnt_r (gbB (c 4).toNat (C 5) (-1)) j
    rw [hm _ (by omega) (by omega), hm _ (by omega) (by omega)]
    exact f7 j a b d
/-- cells of the row that the relation looks at -/
def seeM (q : Nat) : Prop := q ≤ 6 ∨ (10 ≤ q ∧ q < 1608) ∨ 2328 ≤ q ∨ ∃ t : Nat, q = 1610 + 72 * t ∨ q = 1614 + 72 * t
/-- cells of the world that it looks at -/
def seeC (q : Nat) : Prop := q ≤ 2 ∨ q = 4 ∨ (8 ≤ q ∧ q ≤ 13) ∨ (32 ≤ q ∧ q < 302) ∨ (304 ≤ q ∧ q < 484) ∨ ∃ t : Nat, q = 489 + 9 * t ∨ q = 496 + 9 * t
section CRc
variable {x : Int} {m m' pool pool' c c' : Nat → Int} {S S' : Nat → Option mO} {C C' : Nat → Nat → Int} {nm : Nat → Int64} {g g' : Nat → Option Nat}
theorem CRx.fb (h : CRx x m pool S c C nm g) (hok : mOk m) (hx : x ≤ 1) : ∀ F, crF m c C x F → F ≤ 91 := fun F k => by
  have := k.2.1
  have := hok.2.2.2.1
  omega
end CRc
end mg_9w

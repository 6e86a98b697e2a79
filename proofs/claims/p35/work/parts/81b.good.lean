/-! ===== texts whose braces are not deep, whose ! stand before no 0 ===== -/
def bdl (sr : Nat → Int) : Nat → Nat → Int
  | 0, _ => 0
  | n + 1, p => brk (sr p) + bdl sr n (p + 1)
theorem bdl_a {sr : Nat → Int} : ∀ (n k p : Nat), bdl sr (n + k) p = bdl sr n p + bdl sr k (p + n)
  | 0, k, p => by
    rw [Nat.zero_add]
    show bdl sr k p = 0 + bdl sr k p
    rw [Int.zero_add]
  | n + 1, k, p => by
    rw [show n + 1 + k = (n + k) + 1 by omega]
    show brk (sr p) + bdl sr (n + k) (p + 1) = brk (sr p) + bdl sr n (p + 1) + bdl sr k (p + (n + 1))
    rw [bdl_a n k (p + 1), show p + 1 + n = p + (n + 1) by omega, Int.add_assoc]
theorem bdl_c {f g : Nat → Int} : ∀ (n p p' : Nat), (∀ i, i < n → g (p' + i) = f (p + i)) → bdl g n p' = bdl f n p
  | 0, _, _, _ => rfl
  | n + 1, p, p', h => by
    show brk (g p') + bdl g n (p' + 1) = brk (f p) + bdl f n (p + 1)
    have h0 : g p' = f p := h 0 (by omega)
    rw [h0, bdl_c n (p + 1) (p' + 1) (fun i hi => by
      have := h (i + 1) (by omega)
      rw [show p' + 1 + i = p' + (i + 1) by omega, show p + 1 + i = p + (i + 1) by omega]
      exact this)]
theorem bdl_0 {sr : Nat → Int} : ∀ (n p : Nat), (∀ j, p ≤ j → j < p + n → brk (sr j) = 0) → bdl sr n p = 0
  | 0, _, _ => rfl
  | n + 1, p, h => by
    show brk (sr p) + bdl sr n (p + 1) = 0
    rw [h p (by omega) (by omega), bdl_0 n (p + 1) (fun j a b => h j (by omega) (by omega))]
    rfl
/-- braces opened less closed, from p to q -/
def bdp (sr : Nat → Int) (p q : Nat) : Int := bdl sr (q - p) p
section BD
variable {sr : Nat → Int} {p q r e : Nat} {D : Int}
theorem bdp_0 : bdp sr p p = 0 := by unfold bdp; rw [Nat.sub_self]; rfl
theorem bdp_1 : bdp sr p (p + 1) = brk (sr p) := by
  unfold bdp
  rw [show p + 1 - p = 1 by omega]
  show brk (sr p) + 0 = brk (sr p)
  rw [Int.add_zero]
theorem bdp_a (h : p ≤ q) (k : q ≤ r) : bdp sr p r = bdp sr p q + bdp sr q r := by
  unfold bdp
  rw [show r - p = (q - p) + (r - q) by omega, bdl_a, show p + (q - p) = q by omega]
theorem bdp_z (h : ∀ j, p ≤ j → j < e → ¬ sr j = 123 ∧ ¬ sr j = 125) (hq : q ≤ e) : bdp sr p q = 0 :=
  bdl_0 _ _ (fun j a b => brk_ne (h j a (by omega)).1 (h j a (by omega)).2)
theorem brk_o (h : sr p = 123) : brk (sr p) = 1 := by rw [h]; rfl
theorem brk_s (h : sr p = 125) : brk (sr p) = -1 := by rw [h]; rfl
/-- behind a ! at j no 0 stands -/
def bgO (sr : Nat → Int) (e j : Nat) : Prop := (j + 1 < e ∧ 49 ≤ sr (j + 1) ∧ sr (j + 1) ≤ 57) ∨ (j + 2 < e ∧ sr (j + 1) = 48 ∧ 49 ≤ sr (j + 2) ∧ sr (j + 2) ≤ 57)
def BG (sr : Nat → Int) (p e : Nat) : Prop := ∀ j, p ≤ j → j < e → sr j = 33 → bgO sr e j
theorem bgO_up {e' j : Nat} (h : bgO sr e j) (k : e ≤ e') : bgO sr e' j :=
  h.imp (fun z => ⟨by omega, z.2⟩) (fun z => ⟨by omega, z.2⟩)
def GT (sr : Nat → Int) (D : Int) (p e : Nat) : Prop := p ≤ e ∧ bdp sr p e = 0 ∧ (∀ q, p ≤ q → q ≤ e → 0 ≤ bdp sr p q ∧ bdp sr p q ≤ D) ∧ BG sr p e
theorem GT.of0 (hD : 0 ≤ D) (h : p ≤ e) (hc : ∀ j, p ≤ j → j < e → ¬ sr j = 123 ∧ ¬ sr j = 125) (hg : BG sr p e) : GT sr D p e :=
  ⟨h, bdp_z hc (Nat.le_refl _), fun q _ b => by rw [bdp_z hc b]; exact ⟨Int.le_refl _, hD⟩, hg⟩
theorem GT.rn (hD : 0 ≤ D) (h : p ≤ e) (hc : ∀ j, p ≤ j → j < e → ¬ sr j = 123 ∧ ¬ sr j = 125 ∧ ¬ sr j = 33) : GT sr D p e :=
  GT.of0 hD h (fun j a b => ⟨(hc j a b).1, (hc j a b).2.1⟩) (fun j a b c => absurd c (hc j a b).2.2)
theorem GT.ch (hD : 0 ≤ D) {c : Int} (hc : sr p = c) (h1 : ¬ c = 123) (h2 : ¬ c = 125) (h3 : ¬ c = 33) : GT sr D p (p + 1) :=
  GT.rn hD (by omega) (fun j a b => by
    obtain rfl : j = p := by omega
    rw [hc]; exact ⟨h1, h2, h3⟩)
theorem GT.tr (a : GT sr D p q) (b : GT sr D q e) : GT sr D p e := by
  obtain ⟨a1, a2, a3, a4⟩ := a
  obtain ⟨b1, b2, b3, b4⟩ := b
  refine ⟨by omega, by rw [bdp_a a1 b1, a2, b2]; rfl, fun r h1 h2 => ?_, fun j h1 h2 h3 => ?_⟩
  · by_cases c : r ≤ q
    · exact a3 r h1 c
    · rw [bdp_a a1 (show q ≤ r by omega), a2, Int.zero_add]
      exact b3 r (by omega) h2
  · by_cases c : j < q
    · exact bgO_up (a4 j h1 c h3) b1
    · exact b4 j (by omega) h2 h3
theorem GT.up {D' : Int} (a : GT sr D p q) (h : D ≤ D') : GT sr D' p q :=
  ⟨a.1, a.2.1, fun r h1 h2 => ⟨(a.2.2.1 r h1 h2).1, Int.le_trans (a.2.2.1 r h1 h2).2 h⟩, a.2.2.2⟩
theorem GT.br (h1 : sr p = 123) (a : GT sr D (p + 1) r) (h2 : sr r = 125) : GT sr (D + 1) p (r + 1) := by
  obtain ⟨a1, a2, a3, a4⟩ := a
  have o : bdp sr p (p + 1) = 1 := bdp_1.trans (brk_o h1)
  have s : bdp sr r (r + 1) = -1 := bdp_1.trans (brk_s h2)
  have z := a3 (p + 1) (Nat.le_refl _) a1
  rw [bdp_0] at z
  have all : bdp sr p (r + 1) = 0 := by
    rw [bdp_a (show p ≤ p + 1 by omega) (show p + 1 ≤ r + 1 by omega), bdp_a a1 (show r ≤ r + 1 by omega)]
    omega
  refine ⟨by omega, all, fun q g1 g2 => ?_, fun j g1 g2 g3 => ?_⟩
  · by_cases c : q = p
    · subst c
      rw [bdp_0]; omega
    · by_cases d : q = r + 1
      · rw [d, all]; omega
      · rw [bdp_a (show p ≤ p + 1 by omega) (show p + 1 ≤ q by omega)]
        have := a3 q (by omega) (by omega)
        omega
  · by_cases c : j = p
    · rw [c, h1] at g3; exact absurd g3 (by decide)
    · by_cases d : j = r
      · rw [d, h2] at g3; exact absurd g3 (by decide)
      · exact bgO_up (a4 j (by omega) (by omega) g3) (by omega)
theorem GT.num {k : Nat} (hD : 0 ≤ D) (h : numS sr p e k) : GT sr D p e :=
  GT.rn hD (Nat.le_of_lt h.1) (fun j a b => by have := h.2.2 j a b; unfold dgP at this; omega)
theorem GT.sgn (hD : 0 ≤ D) (h : sgnS sr p e) : GT sr D p e := by
  rcases h with ⟨h1, h2⟩ | h
  · exact (GT.ch hD h1 (by decide) (by decide) (by decide)).tr (GT.num hD h2)
  · exact GT.num hD h
theorem GT.nam (hD : 0 ≤ D) (h : namS sr p e) : GT sr D p e :=
  GT.rn hD (Nat.le_of_lt h.1) (fun j a b => by have := h.2.2.1 j a b; unfold isLt at this; omega)
theorem GT.bang (hD : 0 ≤ D) (h1 : sr p = 33) (h : numS sr (p + 1) e 2) (hv : bgO sr e p) : GT sr D p e :=
  GT.of0 hD (by have := h.1; omega) (fun j a b => by
    by_cases c : j = p
    · rw [c, h1]; decide
    · have := h.2.2 j (by omega) b; unfold dgP at this; omega) (fun j a b c => by
    by_cases d : j = p
    · rw [d]; exact hv
    · have := h.2.2 j (by omega) b; unfold dgP at this; omega)
theorem GT.sh {sr' : Nat → Int} {p' : Nat} (a : GT sr D p e) (h : ∀ i, i ≤ e - p → sr' (p' + i) = sr (p + i)) : GT sr' D p' (p' + (e - p)) := by
  obtain ⟨a1, a2, a3, a4⟩ := a
  have m : ∀ i, i ≤ e - p → bdp sr' p' (p' + i) = bdp sr p (p + i) := fun i hi => by
    unfold bdp
    rw [show p' + i - p' = i by omega, show p + i - p = i by omega]
    exact bdl_c i p p' (fun j hj => h j (by omega))
  refine ⟨by omega, by rw [m _ (Nat.le_refl _), show p + (e - p) = e by omega]; exact a2, fun q g1 g2 => ?_, fun j g1 g2 g3 => ?_⟩
  · obtain ⟨i, rfl⟩ : ∃ i, q = p' + i := ⟨q - p', by omega⟩
    rw [m i (by omega)]
    exact a3 _ (by omega) (by omega)
  · obtain ⟨i, rfl⟩ : ∃ i, j = p' + i := ⟨j - p', by omega⟩
    rw [h i (by omega)] at g3
    rcases a4 (p + i) (by omega) (by omega) g3 with z | z
    · have y := h (i + 1) (by omega)
      rw [show p' + (i + 1) = p' + i + 1 by omega, show p + (i + 1) = p + i + 1 by omega] at y
      exact Or.inl ⟨by omega, by omega, by omega⟩
    · have y := h (i + 1) (by omega)
      have y2 := h (i + 2) (by omega)
      rw [show p' + (i + 1) = p' + i + 1 by omega, show p + (i + 1) = p + i + 1 by omega] at y
      rw [show p' + (i + 2) = p' + i + 2 by omega, show p + (i + 2) = p + i + 2 by omega] at y2
      exact Or.inr ⟨by omega, by omega, by omega, by omega⟩
/-- the pool up to b holds such texts alone -/
def GP (pool : Nat → Int) (b : Nat) : Prop := (∀ P q, P ≤ q → q ≤ b → bdp pool P q ≤ 3) ∧ (∀ P, P ≤ b → bdp pool P b ≤ 0) ∧ BG pool 0 b
theorem GP.z {pool : Nat → Int} : GP pool 0 := by
  refine ⟨fun P q h1 h2 => ?_, fun P h => ?_, fun j _ h => absurd h (Nat.not_lt_zero _)⟩
  · obtain rfl : q = 0 := by omega
    obtain rfl : P = 0 := by omega
    rw [bdp_0]; decide
  · obtain rfl : P = 0 := by omega
    rw [bdp_0]; decide
theorem GP.c {pool pool' : Nat → Int} {b : Nat} (h : GP pool b) (hp : ∀ q, q < b → pool' q = pool q) : GP pool' b := by
  have m : ∀ P q, q ≤ b → bdp pool' P q = bdp pool P q := fun P q hq => bdl_c (q - P) P P (fun i hi => hp _ (by omega))
  refine ⟨fun P q h1 h2 => by rw [m P q h2]; exact h.1 P q h1 h2, fun P h1 => by rw [m P b (Nat.le_refl _)]; exact h.2.1 P h1, fun j h1 h2 h3 => ?_⟩
  rw [hp j h2] at h3
  rcases h.2.2 j h1 h2 h3 with z | z
  · exact Or.inl ⟨z.1, by rw [hp _ z.1]; exact z.2⟩
  · exact Or.inr ⟨z.1, by rw [hp (j + 1) (by omega), hp (j + 2) z.1]; exact z.2⟩
theorem GP.join {pool pool' : Nat → Int} (h : GP pool p) (hp : ∀ q, q < p → pool' q = pool q) (g : GT pool' 3 p e) (h0 : pool' e = 0) : GP pool' (e + 1) := by
  obtain ⟨k1, k2, k3⟩ := h.c hp
  obtain ⟨g1, g2, g3, g4⟩ := g
  have z0 : bdp pool' e (e + 1) = 0 := by rw [bdp_1, h0]; rfl
  have tot : bdp pool' p (e + 1) = 0 := by rw [bdp_a g1 (show e ≤ e + 1 by omega), g2, z0]; rfl
  have inn : ∀ q, p ≤ q → q ≤ e + 1 → 0 ≤ bdp pool' p q ∧ bdp pool' p q ≤ 3 := fun q a b => by
    by_cases c : q ≤ e
    · exact g3 q a c
    · obtain rfl : q = e + 1 := by omega
      rw [tot]; decide
  refine ⟨fun P q a b => ?_, fun P a => ?_, fun j a b c => ?_⟩
  · by_cases c : q ≤ p
    · exact k1 P q a c
    · have i := inn q (by omega) b
      by_cases d : P ≤ p
      · rw [bdp_a d (show p ≤ q by omega)]
        have := k2 P d; omega
      · have y := bdp_a (sr := pool') (show p ≤ P by omega) a
        have := inn P (by omega) (by omega); omega
  · by_cases d : P ≤ p
    · rw [bdp_a d (show p ≤ e + 1 by omega), tot]
      have := k2 P d; omega
    · have y := bdp_a (sr := pool') (show p ≤ P by omega) a
      have := inn P (by omega) a; omega
  · by_cases d : j < p
    · exact bgO_up (k3 j a d c) (by omega)
    · by_cases d2 : j < e
      · exact bgO_up (g4 j (by omega) d2 c) (by omega)
      · obtain rfl : j = e := by omega
        rw [h0] at c; exact absurd c (by decide)
end BD
/-! what was read is such a text -/
section AD
variable {sr : Nat → Int} {len D : Int}
def Adv (sr : Nat → Int) (len D : Int) (q q' : PS) : Prop := q.1 ≤ q'.1 ∧ GT (clip sr len) D q.1.toNat q'.1.toNat
theorem Adv.tr {q q' q2 : PS} (a : Adv sr len D q q') (b : Adv sr len D q' q2) : Adv sr len D q q2 := ⟨Int.le_trans a.1 b.1, a.2.tr b.2⟩
theorem Adv.ad (hD : 0 ≤ D) {q : PS} (h0 : 0 ≤ q.1) {c : Int} (hc : clip sr len q.1.toNat = c) (h1 : ¬ c = 123) (h2 : ¬ c = 125) (h3 : ¬ c = 33) : Adv sr len D q (advF q) := by
  have e1 : (advF q).1 = q.1 + 1 := rfl
  refine ⟨by omega, ?_⟩
  rw [show (advF q).1.toNat = q.1.toNat + 1 by omega]
  exact GT.ch hD hc h1 h2 h3
theorem nR_ad (hD : 0 ≤ D) {n : Nat} {l m : Int} {q : PS} (h0 : 0 ≤ q.1) (hn : 1 ≤ n) (h : (nR sr len n l m q).1 = true) : Adv sr len D q (nR sr len n l m q).2 := by
  obtain ⟨a, b, -⟩ := nR_rd h0 hn h
  exact ⟨by omega, GT.num hD a⟩
theorem vR_ad (hD : 0 ≤ D) {q : PS} (h0 : 0 ≤ q.1) (h : (vR sr len q).1 = true) : Adv sr len D q (vR sr len q).2 := by
  obtain ⟨a, b, -⟩ := vR_rd h0 h
  exact ⟨by omega, GT.sgn hD a⟩
theorem aR_ad (hD : 0 ≤ D) {q : PS} (h0 : 0 ≤ q.1) (h : (aR sr len q).1 = true) : Adv sr len D q (aR sr len q).2 := by
  obtain ⟨a, b, -⟩ := aR_rd h0 h
  exact ⟨by omega, GT.nam hD a⟩
theorem gR_ad (hD : 0 ≤ D) {c : Int} {q : PS} (h0 : 0 ≤ q.1) (hc : ¬ c = -1) (h1 : ¬ c = 123) (h2 : ¬ c = 125) (h3 : ¬ c = 33) (h : (gR sr len c q).1 = true) : Adv sr len D q (gR sr len c q).2 := by
  obtain ⟨a, b⟩ := gR_rd h0 hc h
  rw [b]
  exact Adv.ad hD h0 a h1 h2 h3
theorem bang_rd {q : PS} (h0 : 0 ≤ q.1) (h : (nR sr len 2 1 99 q).1 = true) : (49 ≤ clip sr len q.1.toNat ∧ clip sr len q.1.toNat ≤ 57) ∨ (q.1.toNat + 1 < (nR sr len 2 1 99 q).2.1.toNat ∧ clip sr len q.1.toNat = 48 ∧ 49 ≤ clip sr len (q.1.toNat + 1) ∧ clip sr len (q.1.toNat + 1) ≤ 57) := by
  have hb : numberB sr len 2 1 99 q := by simpa [nR] using h
  have e0 : (nR sr len 2 1 99 q).2 = numL sr len 2 (q.1, q.2.1, 0, q.2.2.2) := by
    show numberF sr len 2 1 99 q = _
    unfold numberF
    rw [if_pos hb.1]
    unfold finF
    rw [if_pos hb.2]
  obtain ⟨hb1, hb2, hb3⟩ := hb
  rw [e0]
  have n1 : numL sr len 2 (q.1, q.2.1, 0, q.2.2.2) = numL sr len 1 (q.1 + 1, q.2.1, 10 * 0 + hereF sr len q.1 - 48, q.2.2.2) := by
    show (if 48 ≤ hereF sr len q.1 ∧ hereF sr len q.1 ≤ 57 then numL sr len 1 (q.1 + 1, q.2.1, 10 * 0 + hereF sr len q.1 - 48, q.2.2.2) else (q.1, q.2.1, 0, q.2.2.2)) = _
    exact if_pos hb1
  rw [n1] at hb2 hb3 ⊢
  have c1 := here_c h0 (rfl : hereF sr len q.1 = _) (by omega)
  by_cases c : 48 ≤ hereF sr len (q.1 + 1) ∧ hereF sr len (q.1 + 1) ≤ 57
  · have n2 : numL sr len 1 (q.1 + 1, q.2.1, 10 * 0 + hereF sr len q.1 - 48, q.2.2.2) = (q.1 + 1 + 1, q.2.1, 10 * (10 * 0 + hereF sr len q.1 - 48) + hereF sr len (q.1 + 1) - 48, q.2.2.2) := by
      show (if 48 ≤ hereF sr len (q.1 + 1) ∧ hereF sr len (q.1 + 1) ≤ 57 then numL sr len 0 (q.1 + 1 + 1, q.2.1, 10 * (10 * 0 + hereF sr len q.1 - 48) + hereF sr len (q.1 + 1) - 48, q.2.2.2) else (q.1 + 1, q.2.1, 10 * 0 + hereF sr len q.1 - 48, q.2.2.2)) = _
      exact if_pos c
    rw [n2] at hb2 ⊢
    dsimp only at hb2 ⊢
    have c2 := here_c (show 0 ≤ q.1 + 1 by omega) (rfl : hereF sr len (q.1 + 1) = _) (by omega)
    rw [show (q.1 + 1).toNat = q.1.toNat + 1 by omega] at c2
    by_cases z : hereF sr len q.1 = 48
    · right
      rw [c1, c2]
      exact ⟨by omega, z, by omega, by omega⟩
    · left
      rw [c1]
      omega
  · have n2 : numL sr len 1 (q.1 + 1, q.2.1, 10 * 0 + hereF sr len q.1 - 48, q.2.2.2) = (q.1 + 1, q.2.1, 10 * 0 + hereF sr len q.1 - 48, q.2.2.2) := by
      show (if 48 ≤ hereF sr len (q.1 + 1) ∧ hereF sr len (q.1 + 1) ≤ 57 then numL sr len 0 (q.1 + 1 + 1, q.2.1, 10 * (10 * 0 + hereF sr len q.1 - 48) + hereF sr len (q.1 + 1) - 48, q.2.2.2) else (q.1 + 1, q.2.1, 10 * 0 + hereF sr len q.1 - 48, q.2.2.2)) = _
      exact if_neg c
    rw [n2] at hb2
    dsimp only at hb2
    left
    rw [c1]
    omega
theorem takeG_ad {steps : PS → Bool × PS} {w : Int} {q : PS} (hD : 0 ≤ D) (h0 : 0 ≤ q.1) (hs : ¬ 2 < w → ∀ q : PS, 0 ≤ q.1 → (steps q).1 = true → Adv sr len (D - 1) q (steps q).2) (h : (takeG sr len steps w q).1 = true) : Adv sr len D q (takeG sr len steps w q).2 := by
  unfold takeG at h ⊢
  obtain ⟨a1, a2, a3⟩ := andR_s h
  rw [a3]
  have A := aR_ad hD h0 a1
  try dsimp only at a2 ⊢
  by_cases c : hereF sr len (aR sr len q).2.1 = 123
  · rw [if_pos c] at a2 ⊢
    by_cases w2 : 2 < w
    · rw [if_pos w2] at a2; cases a2
    · rw [if_neg w2] at a2 ⊢
      obtain ⟨d1, d2, d3⟩ := andR_s a2
      rw [d3]
      have e1 : (advF (aR sr len q).2).1 = (aR sr len q).2.1 + 1 := rfl
      have l1 := A.1
      have S := hs w2 _ (by omega) d1
      have l2 := S.1
      obtain ⟨g1, g2⟩ := gR_rd (by omega) (by decide) d2
      rw [g2]
      have c1 := here_c (by omega) c (by decide)
      have e3 : (advF (steps (advF (aR sr len q).2)).2).1 = (steps (advF (aR sr len q).2)).2.1 + 1 := rfl
      refine A.tr ⟨by omega, ?_⟩
      have y := GT.br (D := D - 1) (r := (steps (advF (aR sr len q).2)).2.1.toNat) c1 (by
        have z := S.2
        rw [e1, show ((aR sr len q).2.1 + 1).toNat = (aR sr len q).2.1.toNat + 1 by omega] at z
        exact z) g1
      rw [show D - 1 + 1 = D by omega] at y
      rw [e3, show ((steps (advF (aR sr len q).2)).2.1 + 1).toNat = (steps (advF (aR sr len q).2)).2.1.toNat + 1 by omega]
      exact y
  · rw [if_neg c] at a2 ⊢
    exact A
theorem stepR_ad {take inner : PS → Bool × PS} {it bh : Bool} {q : PS} (hD : 0 ≤ D) (h0 : 0 ≤ q.1)
    (ht : ∀ q : PS, 0 ≤ q.1 → (take q).1 = true → Adv sr len D q (take q).2)
    (hi : bh = false → ∀ q : PS, 0 ≤ q.1 → (inner q).1 = true → Adv sr len D q (inner q).2)
    (h : (stepR sr len take inner it bh q).1 = true) : Adv sr len D q (stepR sr len take inner it bh q).2 := by
  unfold stepR at h ⊢
  by_cases so : stepOk (hereF sr len q.1) it bh q
  · rw [if_pos so] at h ⊢
    have e1 : (advF q).1 = q.1 + 1 := rfl
    have a0 : 0 ≤ (advF q).1 := by omega
    have en : (advF q).1.toNat = q.1.toNat + 1 := by omega
    have A0 : ∀ c : Int, hereF sr len q.1 = c → ¬ c = -1 → ¬ c = 123 → ¬ c = 125 → ¬ c = 33 → Adv sr len D q (advF q) := fun c x y z1 z2 z3 => Adv.ad hD h0 (here_c h0 x y) z1 z2 z3
    unfold stepG at h ⊢
    by_cases c1 : hereF sr len q.1 = 43
    · rw [if_pos c1] at h ⊢
      obtain ⟨u1, u2, u3⟩ := andR_s h
      obtain ⟨v1, v2, v3⟩ := andR_s u1
      rw [u3]
      rw [v3] at u2 ⊢
      have N := nR_ad hD a0 (by decide) v1
      have N1 := N.1
      have K := gR_ad hD (by omega) (by decide) (by decide) (by decide) (by decide) v2
      have K1 := K.1
      exact (((A0 _ c1 (by decide) (by decide) (by decide) (by decide)).tr N).tr K).tr (vR_ad hD (by omega) u2)
    · rw [if_neg c1] at h ⊢
      by_cases c2 : hereF sr len q.1 = 33
      · rw [if_pos c2] at h ⊢
        obtain ⟨n1, n2, n3⟩ := nR_rd a0 (by decide) h
        have bg := bang_rd a0 h
        have p1 := here_c h0 c2 (by decide)
        refine ⟨by omega, GT.bang hD p1 (by rw [← en]; exact n1) ?_⟩
        have n4 := n1.1
        rw [en] at bg
        rcases bg with bg | bg
        · exact Or.inl ⟨by omega, bg⟩
        · exact Or.inr ⟨by have := bg.1; omega, bg.2.1, bg.2.2⟩
      · rw [if_neg c2] at h ⊢
        by_cases c3 : hereF sr len q.1 = 97
        · rw [if_pos c3] at h ⊢
          exact (A0 _ c3 (by decide) (by decide) (by decide) (by decide)).tr (ht _ a0 h)
        · rw [if_neg c3] at h ⊢
          by_cases c4 : hereF sr len q.1 = 120
          · rw [if_pos c4] at h ⊢
            exact (A0 _ c4 (by decide) (by decide) (by decide) (by decide)).tr (aR_ad hD a0 h)
          · rw [if_neg c4] at h ⊢
            by_cases c5 : hereF sr len q.1 = 109
            · rw [if_pos c5] at h ⊢
              obtain ⟨u1, u2, u3⟩ := andR_s h
              obtain ⟨v1, v2, v3⟩ := andR_s u1
              rw [u3]
              rw [v3] at u2 ⊢
              have N := aR_ad hD a0 v1
              have N1 := N.1
              have K := gR_ad hD (by omega) (by decide) (by decide) (by decide) (by decide) v2
              have K1 := K.1
              exact (((A0 _ c5 (by decide) (by decide) (by decide) (by decide)).tr N).tr K).tr (nR_ad hD (by omega) (by decide) u2)
            · rw [if_neg c5] at h ⊢
              by_cases c6 : hereF sr len q.1 = 107
              · rw [if_pos c6] at h ⊢
                exact (A0 _ c6 (by decide) (by decide) (by decide) (by decide)).tr (nR_ad hD a0 (by decide) h)
              · rw [if_neg c6] at h ⊢
                by_cases c7 : hereF sr len q.1 = 63
                · rw [if_pos c7] at h ⊢
                  have bh0 : bh = false := by
                    rcases so with z | z | z | z | z | z | z | z | z
                    all_goals first | (exfalso; omega) | exact z.2 | (exfalso; have := z.1; omega)
                  obtain ⟨u1, u2, u3⟩ := andR_s h
                  obtain ⟨v1, v2, v3⟩ := andR_s u1
                  obtain ⟨x1, x2, x3⟩ := andR_s v1
                  obtain ⟨y1, y2, y3⟩ := andR_s x1
                  rw [u3]
                  rw [v3] at u2 ⊢
                  rw [x3] at v2 u2 ⊢
                  rw [y3] at x2 v2 u2 ⊢
                  have N := nR_ad hD a0 (by decide) y1
                  have N1 := N.1
                  have K := gR_ad hD (by omega) (by decide) (by decide) (by decide) (by decide) y2
                  have K1 := K.1
                  have V := vR_ad hD (by omega) x2
                  have V1 := V.1
                  have W := gR_ad hD (by omega) (by decide) (by decide) (by decide) (by decide) v2
                  have W1 := W.1
                  exact (((((A0 _ c7 (by decide) (by decide) (by decide) (by decide)).tr N).tr K).tr V).tr W).tr (hi bh0 _ (by omega) u2)
                · rw [if_neg c7] at h ⊢
                  rcases so with z | z | z | z | z | z | z | z | ⟨z | z, hit⟩
                  · exact absurd z c1
                  · exact absurd z c2
                  · exact absurd z c3
                  · exact absurd z c4
                  · exact absurd z c5
                  · exact absurd z c6
                  · exact A0 _ z (by decide) (by decide) (by decide) (by decide)
                  · exact absurd z.1 c7
                  · exact A0 _ z (by decide) (by decide) (by decide) (by decide)
                  · exact A0 _ z.1 (by decide) (by decide) (by decide) (by decide)
  · rw [if_neg so] at h; cases h
theorem stL_st {st : PS → Bool × PS} {q : PS} (hs : (st q).1 = false) : ∀ (k : Nat) (n : Int), stepsL sr len st k n (st q) = (st q, n)
  | 0, _ => rfl
  | k + 1, n => by
    show (if (st q).1 = true ∧ hereF sr len (st q).2.1 = 59 then stepsL sr len st k (n + 1) (st (advF (st q).2)) else (st q, n)) = _
    rw [if_neg (by rw [hs]; exact fun z => absurd z.1 (by decide))]
theorem stepsL_ad {st : PS → Bool × PS} (hD : 0 ≤ D) (hst : ∀ q : PS, 0 ≤ q.1 → (st q).1 = true → Adv sr len D q (st q).2) : ∀ (k : Nat) (n : Int) (r : Bool × PS) (q : PS), 0 ≤ q.1 → Adv sr len D q r.2 → (stepsL sr len st k n r).1.1 = true → Adv sr len D q (stepsL sr len st k n r).1.2
  | 0, n, r, q, h0, A, h => A
  | k + 1, n, r, q, h0, A, h => by
    by_cases c : r.1 = true ∧ hereF sr len r.2.1 = 59
    · have e : stepsL sr len st (k + 1) n r = stepsL sr len st k (n + 1) (st (advF r.2)) := by
        show (if r.1 = true ∧ hereF sr len r.2.1 = 59 then stepsL sr len st k (n + 1) (st (advF r.2)) else (r, n)) = _
        rw [if_pos c]
      rw [e] at h ⊢
      have l1 := A.1
      have e1 : (advF r.2).1 = r.2.1 + 1 := rfl
      have s1 : (st (advF r.2)).1 = true := by
        cases hs : (st (advF r.2)).1 with
        | true => rfl
        | false => rw [stL_st hs] at h; rw [hs] at h; cases h
      exact stepsL_ad hD hst k (n + 1) _ q h0 ((A.tr (Adv.ad hD (by omega) (here_c (by omega) c.2 (by decide)) (by decide) (by decide) (by decide))).tr (hst _ (by omega) s1)) h
    · have e : stepsL sr len st (k + 1) n r = (r, n) := by
        show (if r.1 = true ∧ hereF sr len r.2.1 = 59 then stepsL sr len st k (n + 1) (st (advF r.2)) else (r, n)) = _
        rw [if_neg c]
      rw [e]
      exact A
theorem stepsR_ad {st : PS → Bool × PS} (hD : 0 ≤ D) (hst : ∀ q : PS, 0 ≤ q.1 → (st q).1 = true → Adv sr len D q (st q).2) {q : PS} (h0 : 0 ≤ q.1) (h : (stepsR sr len st q).1 = true) : Adv sr len D q (stepsR sr len st q).2 := by
  have h' : (stepsL sr len st (len.toNat + 1) 1 (st q)).1.1 = true := h
  have s1 : (st q).1 = true := by
    cases hs : (st q).1 with
    | true => rfl
    | false => rw [stL_st hs] at h'; rw [hs] at h'; cases h'
  exact stepsL_ad hD hst (len.toNat + 1) 1 (st q) q h0 (hst q h0 s1) h'
theorem stepN_ad : ∀ (n : Nat) (w : Int) (it bh : Bool) (q : PS), w ≤ 3 → 0 ≤ q.1 → (stepN sr len n w it bh q).1 = true → Adv sr len (3 - w) q (stepN sr len n w it bh q).2
  | 0, w, it, bh, q, _, _, h => by cases h
  | n + 1, w, it, bh, q, hw, h0, h => by
    refine stepR_ad (by omega) h0 (fun q' g h' => takeG_ad (by omega) g (fun w2 q2 a b => ?_) h') (fun _ q' g h' => stepN_ad n w false true q' hw g h') h
    rw [show 3 - w - 1 = 3 - (w + 1) by omega]
    exact stepsR_ad (by omega) (fun q3 x y => stepN_ad n (w + 1) false false q3 (by omega) x y) a b
end AD
/-- a whole text that was read -/
theorem readG {sr : Nat → Int} {len w : Int} {it : Bool} {q : PS} (hw : w ≤ 3) (h0 : 0 ≤ q.1) (h : (wR len (stepsW sr len w it q)).1 = true) : GT (clip sr len) (3 - w) q.1.toNat len.toNat := by
  by_cases c : (stepsW sr len w it q).1 = true
  · have e : wR len (stepsW sr len w it q) = wholeR len (stepsW sr len w it q).2 := by unfold wR; rw [if_pos c]
    rw [e] at h
    unfold wholeR at h
    split at h
    · rename_i g
      have y := (stepsR_ad (D := 3 - w) (by omega) (fun q3 x y => stepN_ad 8 w it false q3 hw x y) h0 c).2
      rw [show (stepsR sr len (stepN sr len 8 w it false) q).2.1 = (stepsW sr len w it q).2.1 from rfl, g.1] at y
      exact y
    · cases h
  · have e : wR len (stepsW sr len w it q) = stepsW sr len w it q := by unfold wR; rw [if_neg c]
    rw [e] at h; exact absurd h c

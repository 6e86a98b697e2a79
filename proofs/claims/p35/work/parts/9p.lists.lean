/-! ===== steps as objects, beside their text: S tells what stands at an address; a step and what is in it stand from its address on, below hi ===== -/
def stA (S : Nat → Option mO) (sr : Nat → Int) (cl : Nat → Nat → Nat → Nat → Prop) (a : Nat) (nx : Option Nat) (hi p e : Nat) : Prop :=
  a < hi ∧ ∃ (num vl : Int) (y : Int64) (inn : Option Nat), S a = some (stO (sr p) num vl y inn nx) ∧
  ((sr p = 43 ∧ (48 ≤ sr (p + 1) ∧ sr (p + 1) ≤ 55) ∧ sr (p + 2) = 61 ∧ sgnS sr (p + 3) e ∧ num = sr (p + 1) - 48 ∧ vl = sgV sr (p + 3)) ∨
   (sr p = 33 ∧ numS sr (p + 1) e 2 ∧ num = naL sr 2 (p + 1) 0) ∨
   (sr p = 97 ∧ ∃ q, namS sr (p + 1) q ∧ y = nmY sr (p + 1) q ∧ ((e = q ∧ ¬ sr q = 123 ∧ inn = none) ∨ (sr q = 123 ∧ ∃ r b, cl b hi (q + 1) r ∧ q + 1 ≤ r ∧ sr r = 125 ∧ e = r + 1 ∧ inn = some b ∧ a < b))) ∨
   (sr p = 120 ∧ namS sr (p + 1) e ∧ y = nmY sr (p + 1) e) ∨
   (sr p = 109 ∧ ∃ q, namS sr (p + 1) q ∧ sr q = 62 ∧ numS sr (q + 1) e 2 ∧ y = nmY sr (p + 1) q ∧ num = naL sr 2 (q + 1) 0) ∨
   (sr p = 107 ∧ dgP (sr (p + 1)) ∧ e = p + 2 ∧ num = sr (p + 1) - 48) ∨
   (sr p = 46 ∧ e = p + 1))
def stQ (S : Nat → Option mO) (sr : Nat → Int) (cl : Nat → Nat → Nat → Nat → Prop) (a : Nat) (nx : Option Nat) (hi p e : Nat) : Prop :=
  stA S sr cl a nx hi p e ∨ (a < hi ∧ sr p = 63 ∧ (48 ≤ sr (p + 1) ∧ sr (p + 1) ≤ 55) ∧ sr (p + 2) = 60 ∧ ∃ (q b : Nat) (y : Int64) (nx2 : Option Nat), S a = some (stO 63 (sr (p + 1) - 48) (sgV sr (p + 3)) y (some b) nx) ∧ sgnS sr (p + 3) q ∧ sr q = 58 ∧ a < b ∧ stA S sr cl b nx2 hi (q + 1) e)
def stK (S : Nat → Option mO) (sr : Nat → Int) (cl : Nat → Nat → Nat → Nat → Prop) (it : Bool) (o a : Nat) (nx : Option Nat) (hi p e o' : Nat) : Prop :=
  (stQ S sr cl a nx hi p e ∧ o' = o) ∨
  (it = true ∧ a < hi ∧ sr p = 40 ∧ e = p + 1 ∧ o' = o + 1 ∧ ∃ (num vl : Int) (y : Int64) (inn : Option Nat), S a = some (stO 40 num vl y inn nx)) ∨
  (it = true ∧ a < hi ∧ sr p = 41 ∧ e = p + 1 ∧ o = o' + 1 ∧ ∃ (num vl : Int) (y : Int64) (inn : Option Nat), S a = some (stO 41 num vl y inn nx))
def stL (S : Nat → Option mO) (sr : Nat → Int) : Nat → Bool → Nat → Nat → Nat → Nat → Nat → Prop
  | 0, _, _, _, _, _, _ => False
  | n + 1, it, o, a, hi, p, E => ∃ (nx : Option Nat) (mid e o' : Nat), stK S sr (stL S sr n false 0) it o a nx mid p e o' ∧ mid ≤ hi ∧ endC (sr e) ∧ ((e = E ∧ nx = none) ∨ (e < E ∧ sr e = 59 ∧ ∃ b, nx = some b ∧ mid ≤ b ∧ stL S sr n it o' b hi (e + 1) E))
theorem stA_c {S S' : Nat → Option mO} {sr : Nat → Int} {cl cl' : Nat → Nat → Nat → Nat → Prop} {a hi hi' p e : Nat} {nx nx' : Option Nat} (hh : hi ≤ hi') (hcl : ∀ b q r, a < b → cl b hi q r → cl' b hi' q r)
    (hn : ∀ (kd num vl : Int) (y : Int64) (inn : Option Nat), S a = some (stO kd num vl y inn nx) → S' a = some (stO kd num vl y inn nx')) (k : stA S sr cl a nx hi p e) : stA S' sr cl' a nx' hi' p e := by
  obtain ⟨k0, num, vl, y, inn, k1, k⟩ := k
  refine ⟨by omega, num, vl, y, inn, hn _ _ _ _ _ k1, ?_⟩
  rcases k with k | k | ⟨k2, q, k3, k4, k5⟩ | k | k | k | k
  · exact Or.inl k
  · exact Or.inr (Or.inl k)
  · refine Or.inr (Or.inr (Or.inl ⟨k2, q, k3, k4, ?_⟩))
    rcases k5 with k5 | ⟨k5, r, b, k6, k7, k8, k9, k10, k11⟩
    · exact Or.inl k5
    · exact Or.inr ⟨k5, r, b, hcl b _ _ k11 k6, k7, k8, k9, k10, k11⟩
  · exact Or.inr (Or.inr (Or.inr (Or.inl k)))
  · exact Or.inr (Or.inr (Or.inr (Or.inr (Or.inl k))))
  · exact Or.inr (Or.inr (Or.inr (Or.inr (Or.inr (Or.inl k)))))
  · exact Or.inr (Or.inr (Or.inr (Or.inr (Or.inr (Or.inr k)))))
theorem stQ_c {S S' : Nat → Option mO} {sr : Nat → Int} {cl cl' : Nat → Nat → Nat → Nat → Prop} {a hi hi' p e : Nat} {nx nx' : Option Nat} (hh : hi ≤ hi') (hS : ∀ b, a < b → b < hi → S' b = S b) (hcl : ∀ b q r, a < b → cl b hi q r → cl' b hi' q r)
    (hn : ∀ (kd num vl : Int) (y : Int64) (inn : Option Nat), S a = some (stO kd num vl y inn nx) → S' a = some (stO kd num vl y inn nx')) (k : stQ S sr cl a nx hi p e) : stQ S' sr cl' a nx' hi' p e := by
  rcases k with k | ⟨k0, k1, k2, k3, q, b, y, nx2, k4, k5, k6, k7, k8⟩
  · exact Or.inl (stA_c hh hcl hn k)
  · exact Or.inr ⟨by omega, k1, k2, k3, q, b, y, nx2, hn _ _ _ _ _ k4, k5, k6, k7, stA_c hh (fun c q r h => hcl c q r (by omega)) (fun kd num vl y inn h => by rw [hS b k7 k8.1]; exact h) k8⟩
theorem stK_c {S S' : Nat → Option mO} {sr : Nat → Int} {cl cl' : Nat → Nat → Nat → Nat → Prop} {it : Bool} {o o' a hi hi' p e : Nat} {nx nx' : Option Nat} (hh : hi ≤ hi') (hS : ∀ b, a < b → b < hi → S' b = S b) (hcl : ∀ b q r, a < b → cl b hi q r → cl' b hi' q r)
    (hn : ∀ (kd num vl : Int) (y : Int64) (inn : Option Nat), S a = some (stO kd num vl y inn nx) → S' a = some (stO kd num vl y inn nx')) (k : stK S sr cl it o a nx hi p e o') : stK S' sr cl' it o a nx' hi' p e o' := by
  rcases k with ⟨k, ko⟩ | ⟨k0, k1, k2, k3, k4, num, vl, y, inn, k5⟩ | ⟨k0, k1, k2, k3, k4, num, vl, y, inn, k5⟩
  · exact Or.inl ⟨stQ_c hh hS hcl hn k, ko⟩
  · exact Or.inr (Or.inl ⟨k0, by omega, k2, k3, k4, num, vl, y, inn, hn _ _ _ _ _ k5⟩)
  · exact Or.inr (Or.inr ⟨k0, by omega, k2, k3, k4, num, vl, y, inn, hn _ _ _ _ _ k5⟩)
theorem stK_lt {S : Nat → Option mO} {sr : Nat → Int} {cl : Nat → Nat → Nat → Nat → Prop} {it : Bool} {o o' a hi p e : Nat} {nx : Option Nat} (k : stK S sr cl it o a nx hi p e o') : a < hi := by
  rcases k with ⟨k | k, -⟩ | k | k
  · exact k.1
  · exact k.1
  · exact k.2.1
  · exact k.2.1
/-- more fuel, a later end, the same objects -/
theorem stL_c {S S' : Nat → Option mO} {sr : Nat → Int} : ∀ (n k : Nat), n ≤ k → ∀ (it : Bool) (o a hi hi' p E : Nat), hi ≤ hi' → (∀ b, a ≤ b → b < hi → S' b = S b) → stL S sr n it o a hi p E → stL S' sr k it o a hi' p E
  | 0, k, _, it, o, a, hi, hi', p, E, _, _, h => h.elim
  | n + 1, 0, hk, _, _, _, _, _, _, _, _, _, _ => by omega
  | n + 1, k + 1, hk, it, o, a, hi, hi', p, E, hh, hS, h => by
    obtain ⟨nx, mid, e, o', h1, h2, h3, h4⟩ := h
    have lt := stK_lt h1
    refine ⟨nx, mid, e, o', stK_c (Nat.le_refl _) (fun b x y => hS b (by omega) (by omega)) (fun b q r x y => stL_c n k (by omega) false 0 b mid mid q r (Nat.le_refl _) (fun c u v => hS c (by omega) (by omega)) y) (fun kd num vl y inn g => by rw [hS a (Nat.le_refl _) (by omega)]; exact g) h1, by omega, h3, ?_⟩
    rcases h4 with h4 | ⟨h4, h5, b, h6, h7, h8⟩
    · exact Or.inl h4
    · exact Or.inr ⟨h4, h5, b, h6, h7, stL_c n k (by omega) it o' b hi hi' (e + 1) E hh (fun c u v => hS c (by omega) (by omega)) h8⟩
theorem stL_m {S : Nat → Option mO} {sr : Nat → Int} {n k : Nat} (hk : n ≤ k) {it : Bool} {o a hi p E : Nat} (h : stL S sr n it o a hi p E) : stL S sr k it o a hi p E :=
  stL_c n k hk it o a hi hi p E (Nat.le_refl _) (fun _ _ _ => rfl) h
/-! what is left when the objects are forgotten -/
theorem stA_t {S : Nat → Option mO} {sr : Nat → Int} {cl : Nat → Nat → Nat → Nat → Prop} {st : Nat → Nat → Prop} {a hi p e : Nat} {nx : Option Nat} (hcl : ∀ b q r, cl b hi q r → st q r) (k : stA S sr cl a nx hi p e) : stepT sr st p e := by
  obtain ⟨k0, num, vl, y, inn, k1, k⟩ := k
  rcases k with k | k | ⟨k2, q, k3, k4, k5⟩ | k | ⟨k2, q, k3, k4, k5, -⟩ | k | k
  · exact Or.inl ⟨k.1, k.2.1, k.2.2.1, k.2.2.2.1⟩
  · exact Or.inr (Or.inl ⟨k.1, k.2.1⟩)
  · refine Or.inr (Or.inr (Or.inl ⟨k2, q, k3, ?_⟩))
    rcases k5 with k5 | ⟨k5, r, b, k6, k7, k8, k9, -⟩
    · exact Or.inl ⟨k5.1, k5.2.1⟩
    · exact Or.inr ⟨k5, r, hcl _ _ _ k6, k7, k8, k9⟩
  · exact Or.inr (Or.inr (Or.inr (Or.inl ⟨k.1, k.2.1⟩)))
  · exact Or.inr (Or.inr (Or.inr (Or.inr (Or.inl ⟨k2, q, k3, k4, k5⟩))))
  · exact Or.inr (Or.inr (Or.inr (Or.inr (Or.inr (Or.inl ⟨k.1, k.2.1, k.2.2.1⟩)))))
  · exact Or.inr (Or.inr (Or.inr (Or.inr (Or.inr (Or.inr k)))))
theorem stQ_t {S : Nat → Option mO} {sr : Nat → Int} {cl : Nat → Nat → Nat → Nat → Prop} {st : Nat → Nat → Prop} {a hi p e : Nat} {nx : Option Nat} (hcl : ∀ b q r, cl b hi q r → st q r) (k : stQ S sr cl a nx hi p e) : stepQ sr st p e := by
  rcases k with k | ⟨k0, k1, k2, k3, q, b, y, nx2, k4, k5, k6, k7, k8⟩
  · exact Or.inl (stA_t hcl k)
  · exact Or.inr ⟨k1, k2, k3, q, k5, k6, stA_t hcl k8⟩
theorem stL_tC {S : Nat → Option mO} {sr : Nat → Int} : ∀ (n o a hi p E : Nat), stL S sr n false o a hi p E → stsC sr n p E
  | 0, _, _, _, _, _, h => h.elim
  | n + 1, o, a, hi, p, E, h => by
    obtain ⟨nx, mid, e, o', h1, h2, h3, h4⟩ := h
    have hq : stepQ sr (stsC sr n) p e := by
      rcases h1 with ⟨k, -⟩ | ⟨k, -⟩ | ⟨k, -⟩
      · exact stQ_t (fun b q r g => stL_tC n 0 b mid q r g) k
      · cases k
      · cases k
    refine ⟨e, hq, h3, ?_⟩
    rcases h4 with h4 | ⟨h4, h5, b, h6, h7, h8⟩
    · exact Or.inl h4.1
    · exact Or.inr ⟨h4, h5, stL_tC n o' b hi _ E h8⟩
theorem stL_tT {S : Nat → Option mO} {sr : Nat → Int} : ∀ (n : Nat) (it : Bool) (o a hi p E : Nat), stL S sr n it o a hi p E → stsT sr n o p E
  | 0, _, _, _, _, _, _, h => h.elim
  | n + 1, it, o, a, hi, p, E, h => by
    obtain ⟨nx, mid, e, o', h1, h2, h3, h4⟩ := h
    have hq : stepK sr (stsC sr n) o p e o' := by
      rcases h1 with ⟨k, ko⟩ | ⟨-, -, k1, k2, k3, -⟩ | ⟨-, -, k1, k2, k3, -⟩
      · exact Or.inl ⟨stQ_t (fun b q r g => stL_tC n 0 b mid q r g) k, ko⟩
      · exact Or.inr (Or.inl ⟨k1, k2, k3⟩)
      · exact Or.inr (Or.inr ⟨k1, k2, k3⟩)
    refine ⟨e, o', hq, h3, ?_⟩
    rcases h4 with h4 | ⟨h4, h5, b, h6, h7, h8⟩
    · exact Or.inl h4.1
    · exact Or.inr ⟨h4, h5, stL_tT n it o' b hi _ E h8⟩
/-! the same objects, the same text at another place -/
section AT2
variable {sr sr' : Nat → Int} {d d' : Nat}
def lik2 (sr sr' : Nat → Int) (d d' p E : Nat) : Prop := ∀ j, p ≤ j → j ≤ E → sr' (j + d') = sr (j + d)
theorem lik2.sub {p E q e : Nat} (h : lik2 sr sr' d d' p E) (h1 : p ≤ q) (h2 : e ≤ E) : lik2 sr sr' d d' q e := fun j a b => h j (by omega) (by omega)
theorem numS_2 {p e k : Nat} (h : lik2 sr sr' d d' p e) (n : numS sr (p + d) (e + d) k) : numS sr' (p + d') (e + d') k :=
  numS_at (sr := fun j => sr (j + d)) (sr' := sr') (d := d') (fun j a b => h j a b) (numS_dn (sr := fun j => sr (j + d)) (sr' := sr) (d := d) (fun _ _ _ => rfl) n)
theorem sgnS_2 {p e : Nat} (h : lik2 sr sr' d d' p e) (n : sgnS sr (p + d) (e + d)) : sgnS sr' (p + d') (e + d') :=
  sgnS_at (sr := fun j => sr (j + d)) (sr' := sr') (d := d') (fun j a b => h j a b) (sgnS_dn (sr := fun j => sr (j + d)) (sr' := sr) (d := d) (fun _ _ _ => rfl) n)
theorem namS_2 {p e : Nat} (h : lik2 sr sr' d d' p e) (n : namS sr (p + d) (e + d)) : namS sr' (p + d') (e + d') :=
  namS_at (sr := fun j => sr (j + d)) (sr' := sr') (d := d') (fun j a b => h j a b) (namS_dn (sr := fun j => sr (j + d)) (sr' := sr) (d := d) (fun _ _ _ => rfl) n)
theorem nmY_2 {p e : Nat} (h : lik2 sr sr' d d' p e) : nmY sr' (p + d') (e + d') = nmY sr (p + d) (e + d) := by
  unfold nmY nmN
  refine congrArg lN (cdN_c 7 (fun j _ => ?_))
  unfold nmG
  by_cases c : p + j < e
  · rw [if_pos (by omega), if_pos (by omega)]
    have := h (p + j) (by omega) (by omega)
    rw [show p + d' + j = p + j + d' by omega, show p + d + j = p + j + d by omega, this]
  · rw [if_neg (by omega), if_neg (by omega)]
theorem naL_2 : ∀ (k p e : Nat) (v : Int), lik2 sr sr' d d' p e → p ≤ e → (∀ j, p ≤ j → j < e → dgP (sr (j + d))) → (¬ dgP (sr (e + d)) ∨ p + k ≤ e) → naL sr' k (p + d') v = naL sr k (p + d) v
  | 0, p, e, v, _, _, _, _ => rfl
  | k + 1, p, e, v, h, hp, hd, he => by
    unfold naL
    rw [h p (Nat.le_refl _) hp]
    by_cases c : 48 ≤ sr (p + d) ∧ sr (p + d) ≤ 57
    · rw [if_pos c, if_pos c]
      have lt : p < e := by
        by_cases q : p = e
        · subst q
          rcases he with he | he
          · exact absurd c he
          · omega
        · omega
      have y := naL_2 k (p + 1) e (10 * v + sr (p + d) - 48) (h.sub (by omega) (Nat.le_refl _)) (by omega) (fun j a b => hd j (by omega) b) (he.elim Or.inl (fun g => Or.inr (by omega)))
      rw [show p + d' + 1 = p + 1 + d' by omega, show p + d + 1 = p + 1 + d by omega]
      exact y
    · rw [if_neg c, if_neg c]
theorem naL_3 {k p e : Nat} (h : lik2 sr sr' d d' p e) (n : numS sr (p + d) (e + d) k) (he : ¬ dgP (sr (e + d))) (m : Nat) (v : Int) : naL sr' m (p + d') v = naL sr m (p + d) v := by
  obtain ⟨a, b, c⟩ := n
  exact naL_2 m p e v h (by omega) (fun j x y => c (j + d) (by omega) (by omega)) (Or.inl he)
theorem sgV_2 {p e : Nat} (h : lik2 sr sr' d d' p e) (n : sgnS sr (p + d) (e + d)) (he : ¬ dgP (sr (e + d))) : sgV sr' (p + d') = sgV sr (p + d) := by
  have lt := (sgnS_lt n).1
  unfold sgV
  rw [h p (Nat.le_refl _) (by omega)]
  rcases n with ⟨n1, n2⟩ | n
  · rw [if_pos n1, if_pos n1]
    have y := naL_3 (p := p + 1) (e := e) (h.sub (by omega) (Nat.le_refl _)) (by rw [show p + 1 + d = p + d + 1 by omega]; exact n2) he 5 0
    rw [show p + d' + 1 = p + 1 + d' by omega, show p + d + 1 = p + 1 + d by omega, y]
  · have c : ¬ sr (p + d) = 45 := fun g => by
      have := n.2.2 (p + d) (Nat.le_refl _) (by omega)
      unfold dgP at this; omega
    rw [if_neg c, if_neg c]
    exact naL_3 h n he 5 0
theorem stA_2 {S : Nat → Option mO} {cl cl' : Nat → Nat → Nat → Nat → Prop} {a hi p e : Nat} {nx : Option Nat} (h : lik2 sr sr' d d' p e) (he : ¬ dgP (sr (e + d))) (hcl : ∀ b q r, p ≤ q → r ≤ e → cl b hi (q + d) (r + d) → cl' b hi (q + d') (r + d')) (k : stA S sr cl a nx hi (p + d) (e + d)) : stA S sr' cl' a nx hi (p + d') (e + d') := by
  have lt : p < e := by
    have := stepT_lt (stA_t (st := fun _ _ => True) (fun _ _ _ _ => trivial) k)
    omega
  obtain ⟨k0, num, vl, y, inn, k1, k⟩ := k
  refine ⟨k0, num, vl, y, inn, by rw [h p (Nat.le_refl _) (by omega)]; exact k1, ?_⟩
  rw [h p (Nat.le_refl _) (by omega)]
  rcases k with k | k | ⟨k2, q, k3, k4, k5⟩ | k | ⟨k2, q, k3, k4, k5, k6, k7⟩ | k | k
  · have b := (sgnS_lt k.2.2.2.1).1
    refine Or.inl ⟨k.1, ?_, ?_, ?_, ?_, ?_⟩
    · rw [show p + d' + 1 = p + 1 + d' by omega, h (p + 1) (by omega) (by omega), show p + 1 + d = p + d + 1 by omega]; exact k.2.1
    · rw [show p + d' + 2 = p + 2 + d' by omega, h (p + 2) (by omega) (by omega), show p + 2 + d = p + d + 2 by omega]; exact k.2.2.1
    · have := sgnS_2 (p := p + 3) (h.sub (by omega) (Nat.le_refl _)) (by rw [show p + 3 + d = p + d + 3 by omega]; exact k.2.2.2.1)
      rw [show p + d' + 3 = p + 3 + d' by omega]; exact this
    · rw [show p + d' + 1 = p + 1 + d' by omega, h (p + 1) (by omega) (by omega), show p + 1 + d = p + d + 1 by omega]; exact k.2.2.2.2.1
    · have := sgV_2 (p := p + 3) (h.sub (by omega) (Nat.le_refl _)) (by rw [show p + 3 + d = p + d + 3 by omega]; exact k.2.2.2.1) he
      rw [show p + d' + 3 = p + 3 + d' by omega, this, show p + 3 + d = p + d + 3 by omega]; exact k.2.2.2.2.2
  · refine Or.inr (Or.inl ⟨k.1, ?_, ?_⟩)
    · have := numS_2 (p := p + 1) (h.sub (by omega) (Nat.le_refl _)) (by rw [show p + 1 + d = p + d + 1 by omega]; exact k.2.1)
      rw [show p + d' + 1 = p + 1 + d' by omega]; exact this
    · have := naL_3 (p := p + 1) (h.sub (by omega) (Nat.le_refl _)) (by rw [show p + 1 + d = p + d + 1 by omega]; exact k.2.1) he 2 0
      rw [show p + d' + 1 = p + 1 + d' by omega, this, show p + 1 + d = p + d + 1 by omega]; exact k.2.2
  · obtain ⟨q0, rfl⟩ : ∃ q0, q = q0 + d := ⟨q - d, by have := k3.1; omega⟩
    have q1 := k3.1
    have qe : q0 ≤ e := by
      rcases k5 with k5 | ⟨-, r, b, -, k7, -, k9, -⟩
      · omega
      · omega
    refine Or.inr (Or.inr (Or.inl ⟨k2, q0 + d', ?_, ?_, ?_⟩))
    · have := namS_2 (p := p + 1) (e := q0) (h.sub (by omega) qe) (by rw [show p + 1 + d = p + d + 1 by omega]; exact k3)
      rw [show p + d' + 1 = p + 1 + d' by omega]; exact this
    · have := nmY_2 (p := p + 1) (e := q0) (h.sub (by omega) qe)
      rw [show p + d' + 1 = p + 1 + d' by omega, this, show p + 1 + d = p + d + 1 by omega]; exact k4
    · rcases k5 with ⟨k5, k6, k7⟩ | ⟨k5, r, b, k6, k7, k8, k9, k10, k11⟩
      · refine Or.inl ⟨by omega, ?_, k7⟩
        rw [h q0 (by omega) qe]; exact k6
      · obtain ⟨r0, rfl⟩ : ∃ r0, r = r0 + d := ⟨r - d, by omega⟩
        refine Or.inr ⟨by rw [h q0 (by omega) qe]; exact k5, r0 + d', b, ?_, by omega, by rw [h r0 (by omega) (by omega)]; exact k8, by omega, k10, k11⟩
        have := hcl b (q0 + 1) r0 (by omega) (by omega) (by rw [show q0 + 1 + d = q0 + d + 1 by omega]; exact k6)
        rw [show q0 + d' + 1 = q0 + 1 + d' by omega]; exact this
  · refine Or.inr (Or.inr (Or.inr (Or.inl ⟨k.1, ?_, ?_⟩)))
    · have := namS_2 (p := p + 1) (h.sub (by omega) (Nat.le_refl _)) (by rw [show p + 1 + d = p + d + 1 by omega]; exact k.2.1)
      rw [show p + d' + 1 = p + 1 + d' by omega]; exact this
    · have := nmY_2 (p := p + 1) (e := e) (h.sub (by omega) (Nat.le_refl _))
      rw [show p + d' + 1 = p + 1 + d' by omega, this, show p + 1 + d = p + d + 1 by omega]; exact k.2.2
  · obtain ⟨q0, rfl⟩ : ∃ q0, q = q0 + d := ⟨q - d, by have := k3.1; omega⟩
    have q1 := k3.1
    have q2 := k5.1
    refine Or.inr (Or.inr (Or.inr (Or.inr (Or.inl ⟨k2, q0 + d', ?_, ?_, ?_, ?_, ?_⟩))))
    · have := namS_2 (p := p + 1) (e := q0) (h.sub (by omega) (by omega)) (by rw [show p + 1 + d = p + d + 1 by omega]; exact k3)
      rw [show p + d' + 1 = p + 1 + d' by omega]; exact this
    · rw [h q0 (by omega) (by omega)]; exact k4
    · have := numS_2 (p := q0 + 1) (h.sub (by omega) (Nat.le_refl _)) (by rw [show q0 + 1 + d = q0 + d + 1 by omega]; exact k5)
      rw [show q0 + d' + 1 = q0 + 1 + d' by omega]; exact this
    · have := nmY_2 (p := p + 1) (e := q0) (h.sub (by omega) (by omega))
      rw [show p + d' + 1 = p + 1 + d' by omega, this, show p + 1 + d = p + d + 1 by omega]; exact k6
    · have := naL_3 (p := q0 + 1) (h.sub (by omega) (Nat.le_refl _)) (by rw [show q0 + 1 + d = q0 + d + 1 by omega]; exact k5) he 2 0
      rw [show q0 + d' + 1 = q0 + 1 + d' by omega, this, show q0 + 1 + d = q0 + d + 1 by omega]; exact k7
  · refine Or.inr (Or.inr (Or.inr (Or.inr (Or.inr (Or.inl ⟨k.1, ?_, by omega, ?_⟩)))))
    · rw [show p + d' + 1 = p + 1 + d' by omega, h (p + 1) (by omega) (by omega), show p + 1 + d = p + d + 1 by omega]; exact k.2.1
    · rw [show p + d' + 1 = p + 1 + d' by omega, h (p + 1) (by omega) (by omega), show p + 1 + d = p + d + 1 by omega]; exact k.2.2.2
  · exact Or.inr (Or.inr (Or.inr (Or.inr (Or.inr (Or.inr ⟨k.1, by omega⟩)))))
theorem stQ_2 {S : Nat → Option mO} {cl cl' : Nat → Nat → Nat → Nat → Prop} {a hi p e : Nat} {nx : Option Nat} (h : lik2 sr sr' d d' p e) (he : ¬ dgP (sr (e + d))) (hcl : ∀ b q r, p ≤ q → r ≤ e → cl b hi (q + d) (r + d) → cl' b hi (q + d') (r + d')) (k : stQ S sr cl a nx hi (p + d) (e + d)) : stQ S sr' cl' a nx hi (p + d') (e + d') := by
  have lt : p < e := by
    have := stepQ_lt (stQ_t (st := fun _ _ => True) (fun _ _ _ _ => trivial) k)
    omega
  rcases k with k | ⟨k0, k1, k2, k3, q, b, y, nx2, k4, k5, k6, k7, k8⟩
  · exact Or.inl (stA_2 h he hcl k)
  · have l8 := stepT_lt (stA_t (st := fun _ _ => True) (fun _ _ _ _ => trivial) k8)
    have l5 := (sgnS_lt k5).1
    obtain ⟨q0, rfl⟩ : ∃ q0, q = q0 + d := ⟨q - d, by omega⟩
    refine Or.inr ⟨k0, by rw [h p (Nat.le_refl _) (by omega)]; exact k1, ?_, ?_, q0 + d', b, y, nx2, ?_, ?_, ?_, k7, ?_⟩
    · rw [show p + d' + 1 = p + 1 + d' by omega, h (p + 1) (by omega) (by omega), show p + 1 + d = p + d + 1 by omega]; exact k2
    · rw [show p + d' + 2 = p + 2 + d' by omega, h (p + 2) (by omega) (by omega), show p + 2 + d = p + d + 2 by omega]; exact k3
    · have hq : ¬ dgP (sr (q0 + d)) := by rw [k6]; unfold dgP; omega
      have v := sgV_2 (p := p + 3) (e := q0) (h.sub (by omega) (by omega)) (by rw [show p + 3 + d = p + d + 3 by omega]; exact k5) hq
      rw [show p + d' + 1 = p + 1 + d' by omega, h (p + 1) (by omega) (by omega), show p + 1 + d = p + d + 1 by omega, show p + d' + 3 = p + 3 + d' by omega, v, show p + 3 + d = p + d + 3 by omega]; exact k4
    · have := sgnS_2 (p := p + 3) (e := q0) (h.sub (by omega) (by omega)) (by rw [show p + 3 + d = p + d + 3 by omega]; exact k5)
      rw [show p + d' + 3 = p + 3 + d' by omega]; exact this
    · rw [h q0 (by omega) (by omega)]; exact k6
    · have := stA_2 (p := q0 + 1) (h.sub (by omega) (Nat.le_refl _)) he (fun b q r x y => hcl b q r (by omega) y) (by rw [show q0 + 1 + d = q0 + d + 1 by omega]; exact k8)
      rw [show q0 + d' + 1 = q0 + 1 + d' by omega]; exact this
theorem endC_d {c : Int} (h : endC c) : ¬ dgP c := endC_nd h
theorem stL_lt {S : Nat → Option mO} {sr : Nat → Int} {n : Nat} {it : Bool} {o a hi p E : Nat} (h : stL S sr n it o a hi p E) : p < E := stsT_lt (stL_tT n it o a hi p E h)
theorem stL_2 {S : Nat → Option mO} : ∀ (n : Nat) (it : Bool) (o a hi p E : Nat), lik2 sr sr' d d' p E → stL S sr n it o a hi (p + d) (E + d) → stL S sr' n it o a hi (p + d') (E + d')
  | 0, _, _, _, _, _, _, _, h => h.elim
  | n + 1, it, o, a, hi, p, E, hl, h => by
    obtain ⟨nx, mid, e, o', h1, h2, h3, h4⟩ := h
    have lt : p + d < e := by
      rcases h1 with ⟨k, -⟩ | ⟨-, -, -, k, -⟩ | ⟨-, -, -, k, -⟩
      · exact stepQ_lt (stQ_t (st := fun _ _ => True) (fun _ _ _ _ => trivial) k)
      · omega
      · omega
    obtain ⟨e0, rfl⟩ : ∃ e0, e = e0 + d := ⟨e - d, by omega⟩
    have le : e0 ≤ E := by
      rcases h4 with h4 | h4
      · omega
      · omega
    refine ⟨nx, mid, e0 + d', o', ?_, h2, by rw [hl e0 (by omega) le]; exact h3, ?_⟩
    · rcases h1 with ⟨k, ko⟩ | ⟨k0, k1, k2, k3, k4, k5⟩ | ⟨k0, k1, k2, k3, k4, k5⟩
      · exact Or.inl ⟨stQ_2 (hl.sub (Nat.le_refl _) le) (endC_d h3) (fun b q r x y g => stL_2 n false 0 b mid q r (hl.sub x (by omega)) g) k, ko⟩
      · exact Or.inr (Or.inl ⟨k0, k1, by rw [hl p (Nat.le_refl _) (by omega)]; exact k2, by omega, k4, k5⟩)
      · exact Or.inr (Or.inr ⟨k0, k1, by rw [hl p (Nat.le_refl _) (by omega)]; exact k2, by omega, k4, k5⟩)
    · rcases h4 with h4 | ⟨h4, h5, b, h6, h7, h8⟩
      · exact Or.inl ⟨by omega, h4.2⟩
      · refine Or.inr ⟨by omega, by rw [hl e0 (by omega) le]; exact h5, b, h6, h7, ?_⟩
        have := stL_2 n it o' b hi (e0 + 1) E (hl.sub (by omega) (Nat.le_refl _)) (by rw [show e0 + 1 + d = e0 + d + 1 by omega]; exact h8)
        rw [show e0 + d' + 1 = e0 + 1 + d' by omega]; exact this
end AT2
/-! a list that is still being read: its last step has none behind it yet -/
def clX (S : Nat → Option mO) (sr : Nat → Int) : Nat → Nat → Nat → Nat → Prop := fun b hi q r => ∃ n, stL S sr n false 0 b hi q r
def sgL (S : Nat → Option mO) (sr : Nat → Int) (it : Bool) : Nat → Nat → Nat → Nat → Nat → Nat → Nat → Nat → Prop
  | 0, o, a, l, hi, p, e, o' => l = a ∧ stK S sr (clX S sr) it o a none hi p e o'
  | k + 1, o, a, l, hi, p, e, o' => ∃ b mid e1 o1, stK S sr (clX S sr) it o a (some b) mid p e1 o1 ∧ sr e1 = 59 ∧ (mid ≤ b ∧ b < hi) ∧ e1 < e ∧ sgL S sr it k o1 b l hi (e1 + 1) e o'
theorem clX_c {S S' : Nat → Option mO} {sr : Nat → Int} {b hi hi' q r : Nat} (hh : hi ≤ hi') (hS : ∀ c, b ≤ c → c < hi → S' c = S c) (h : clX S sr b hi q r) : clX S' sr b hi' q r := by
  obtain ⟨n, h⟩ := h
  exact ⟨n, stL_c n n (Nat.le_refl _) _ _ _ _ _ _ _ hh hS h⟩
theorem sgL_l {S : Nat → Option mO} {sr : Nat → Int} {it : Bool} : ∀ (k o a l hi p e o' : Nat), sgL S sr it k o a l hi p e o' → a ≤ l ∧ l < hi
  | 0, o, a, l, hi, p, e, o', h => by have := stK_lt h.2; have := h.1; omega
  | k + 1, o, a, l, hi, p, e, o', h => by
    obtain ⟨b, mid, e1, o1, h1, h2, h3, h4, h5⟩ := h
    have := stK_lt h1
    have := sgL_l k o1 b l hi (e1 + 1) e o' h5
    omega
theorem sgL_n {S : Nat → Option mO} {sr : Nat → Int} {it : Bool} : ∀ (k o a l hi p e o' : Nat), sgL S sr it k o a l hi p e o' → ∃ kd num vl y inn, S l = some (stO kd num vl y inn none)
  | 0, o, a, l, hi, p, e, o', h => by
    obtain ⟨rfl, h⟩ := h
    rcases h with ⟨h | ⟨-, -, -, -, q, b, y, nx2, h, -⟩, -⟩ | ⟨-, -, -, -, -, num, vl, y, inn, h⟩ | ⟨-, -, -, -, -, num, vl, y, inn, h⟩
    · obtain ⟨-, num, vl, y, inn, h, -⟩ := h
      exact ⟨_, _, _, _, _, h⟩
    · exact ⟨_, _, _, _, _, h⟩
    · exact ⟨_, _, _, _, _, h⟩
    · exact ⟨_, _, _, _, _, h⟩
  | k + 1, o, a, l, hi, p, e, o', h => by
    obtain ⟨b, mid, e1, o1, h1, h2, h3, h4, h5⟩ := h
    exact sgL_n k o1 b l hi (e1 + 1) e o' h5
/-- one more -/
theorem sgL_a {S S' : Nat → Option mO} {sr : Nat → Int} {it : Bool} {b2 hi2 e2 o2 : Nat} : ∀ (k o a l hi p e o' : Nat), sgL S sr it k o a l hi p e o' → (∀ b, a ≤ b → b < hi → ¬ b = l → S' b = S b) →
    (∀ (kd num vl : Int) (y : Int64) (inn : Option Nat), S l = some (stO kd num vl y inn none) → S' l = some (stO kd num vl y inn (some b2))) → sr e = 59 → e < e2 → hi ≤ b2 → stK S' sr (clX S' sr) it o' b2 none hi2 (e + 1) e2 o2 → sgL S' sr it (k + 1) o a b2 hi2 p e2 o2
  | 0, o, a, l, hi, p, e, o', h, hS, hn, he, he2, hb, hk => by
    obtain ⟨rfl, h⟩ := h
    have := stK_lt hk
    have := stK_lt h
    exact ⟨b2, hi, e, o', stK_c (Nat.le_refl _) (fun b x y => hS b (by omega) y (by omega)) (fun b q r x y => clX_c (Nat.le_refl _) (fun c u v => hS c (by omega) v (by omega)) y) hn h, he, ⟨hb, by omega⟩, he2, rfl, hk⟩
  | k + 1, o, a, l, hi, p, e, o', h, hS, hn, he, he2, hb, hk => by
    obtain ⟨b, mid, e1, o1, h1, h2, h3, h4, h5⟩ := h
    have l1 := stK_lt h1
    have l2 := stK_lt hk
    have l3 := sgL_l k o1 b l hi (e1 + 1) e o' h5
    exact ⟨b, mid, e1, o1, stK_c (Nat.le_refl _) (fun c x y => hS c (by omega) (by omega) (by omega)) (fun c q r x y => clX_c (Nat.le_refl _) (fun g u v => hS g (by omega) (by omega) (by omega)) y) (fun kd num vl y inn g => by rw [hS a (Nat.le_refl _) (by omega) (by omega)]; exact g) h1, h2, ⟨h3.1, by omega⟩, by omega,
      sgL_a k o1 b l hi (e1 + 1) e o' h5 (fun c x y z => hS c (by omega) y z) hn he he2 hb hk⟩
theorem stK_fu {S : Nat → Option mO} {sr : Nat → Int} {it : Bool} {o a hi p e o' : Nat} {nx : Option Nat} (k : stK S sr (clX S sr) it o a nx hi p e o') : ∃ n, stK S sr (stL S sr n false 0) it o a nx hi p e o' := by
  have fa : ∀ {a p : Nat} {nx : Option Nat}, stA S sr (clX S sr) a nx hi p e → ∃ n, stA S sr (stL S sr n false 0) a nx hi p e := fun {a p nx} k => by
    obtain ⟨k0, num, vl, y, inn, k1, k⟩ := k
    rcases k with k | k | ⟨k2, q, k3, k4, k5⟩ | k | k | k | k
    · exact ⟨0, k0, num, vl, y, inn, k1, Or.inl k⟩
    · exact ⟨0, k0, num, vl, y, inn, k1, Or.inr (Or.inl k)⟩
    · rcases k5 with k5 | ⟨k5, r, b, ⟨n, k6⟩, k7, k8, k9, k10, k11⟩
      · exact ⟨0, k0, num, vl, y, inn, k1, Or.inr (Or.inr (Or.inl ⟨k2, q, k3, k4, Or.inl k5⟩))⟩
      · exact ⟨n, k0, num, vl, y, inn, k1, Or.inr (Or.inr (Or.inl ⟨k2, q, k3, k4, Or.inr ⟨k5, r, b, k6, k7, k8, k9, k10, k11⟩⟩))⟩
    · exact ⟨0, k0, num, vl, y, inn, k1, Or.inr (Or.inr (Or.inr (Or.inl k)))⟩
    · exact ⟨0, k0, num, vl, y, inn, k1, Or.inr (Or.inr (Or.inr (Or.inr (Or.inl k))))⟩
    · exact ⟨0, k0, num, vl, y, inn, k1, Or.inr (Or.inr (Or.inr (Or.inr (Or.inr (Or.inl k)))))⟩
    · exact ⟨0, k0, num, vl, y, inn, k1, Or.inr (Or.inr (Or.inr (Or.inr (Or.inr (Or.inr k)))))⟩
  rcases k with ⟨k | ⟨k0, k1, k2, k3, q, b, y, nx2, k4, k5, k6, k7, k8⟩, ko⟩ | k | k
  · obtain ⟨n, k⟩ := fa k
    exact ⟨n, Or.inl ⟨Or.inl k, ko⟩⟩
  · obtain ⟨n, k8⟩ := fa k8
    exact ⟨n, Or.inl ⟨Or.inr ⟨k0, k1, k2, k3, q, b, y, nx2, k4, k5, k6, k7, k8⟩, ko⟩⟩
  · exact ⟨0, Or.inr (Or.inl k)⟩
  · exact ⟨0, Or.inr (Or.inr k)⟩
/-- it ends -/
theorem sgL_e {S : Nat → Option mO} {sr : Nat → Int} {it : Bool} : ∀ (k o a l hi p E o' : Nat), sgL S sr it k o a l hi p E o' → endC (sr E) → ∃ n, stL S sr n it o a hi p E
  | 0, o, a, l, hi, p, E, o', h, hE => by
    obtain ⟨rfl, h⟩ := h
    obtain ⟨n, h⟩ := stK_fu h
    exact ⟨n + 1, none, hi, E, o', h, Nat.le_refl _, hE, Or.inl ⟨rfl, rfl⟩⟩
  | k + 1, o, a, l, hi, p, E, o', h, hE => by
    obtain ⟨b, mid, e1, o1, h1, h2, h3, h4, h5⟩ := h
    obtain ⟨n, h1⟩ := stK_fu h1
    obtain ⟨n2, h6⟩ := sgL_e k o1 b l hi (e1 + 1) E o' h5 hE
    refine ⟨(n + n2) + 1, some b, mid, e1, o1, stK_c (Nat.le_refl _) (fun _ _ _ => rfl) (fun c q r _ g => stL_m (by omega) g) (fun _ _ _ _ _ g => g) h1, by omega, Or.inl h2, Or.inr ⟨h4, h2, b, rfl, h3.1, stL_m (by omega) h6⟩⟩

section AT2
variable {sr sr' : Nat → Int} {d d' : Nat}
end AT2
/-! a list that is still being read: its last step has none behind it yet -/
def clX (S : Nat → Option mO) (sr : Nat → Int) : Nat → Nat → Nat → Nat → Prop := fun b hi q r => ∃ n, stL S sr n false 0 b hi q r
def sgL (S : Nat → Option mO) (sr : Nat → Int) (it : Bool) : Nat → Nat → Nat → Nat → Nat → Nat → Nat → Nat → Prop
  | 0, o, a, l, hi, p, e, o' => l = a ∧ stK S sr (clX S sr) it o a none hi p e o'
  | k + 1, o, a, l, hi, p, e, o' => ∃ b mid e1 o1, stK S sr (clX S sr) it o a (some b) mid p e1 o1 ∧ sr e1 = 59 ∧ (mid ≤ b ∧ b < hi) ∧ e1 < e ∧ sgL S sr it k o1 b l hi (e1 + 1) e o'
theorem clX_c {S S' : Nat → Option mO} {sr : Nat → Int} {b hi hi' q r : Nat} (hh : hi ≤ hi') (hS : ∀ c, b ≤ c → c < hi → S' c = S c) (h : clX S sr b hi q r) : clX S' sr b hi' q r := by
  obtain ⟨n, h⟩ := h
  exact ⟨n, stL_c n n (Nat.le_refl _) _ _ _ _ _ _ _ hh hS h⟩
theorem sgL_l {S : Nat → Option mO} {sr : Nat → Int} {it : Bool} : ∀ (k o a l hi p e o' : Nat), sgL S sr it k o a l hi p e o' → a ≤ l ∧ l < hi
  | 0, o, a, l, hi, p, e, o', h => by have := stK_lt h.2; have := h.1; omega
  | k + 1, o, a, l, hi, p, e, o', h => by
    obtain ⟨b, mid, e1, o1, h1, h2, h3, h4, h5⟩ := h
    have := stK_lt h1
    have := sgL_l k o1 b l hi (e1 + 1) e o' h5
    omega
theorem sgL_n {S : Nat → Option mO} {sr : Nat → Int} {it : Bool} : ∀ (k o a l hi p e o' : Nat), sgL S sr it k o a l hi p e o' → ∃ kd num vl y inn, S l = some (stO kd num vl y inn none)
  | 0, o, a, l, hi, p, e, o', h => by
    obtain ⟨rfl, h⟩ := h
    rcases h with ⟨h | ⟨-, -, -, -, q, b, y, nx2, h, -⟩, -⟩ | ⟨-, -, -, -, -, num, vl, y, inn, h⟩ | ⟨-, -, -, -, -, num, vl, y, inn, h⟩
    · obtain ⟨-, num, vl, y, inn, h, -⟩ := h
      exact ⟨_, _, _, _, _, h⟩
    · exact ⟨_, _, _, _, _, h⟩
    · exact ⟨_, _, _, _, _, h⟩
    · exact ⟨_, _, _, _, _, h⟩
  | k + 1, o, a, l, hi, p, e, o', h => by
    obtain ⟨b, mid, e1, o1, h1, h2, h3, h4, h5⟩ := h
    exact sgL_n k o1 b l hi (e1 + 1) e o' h5
/-- one more -/
theorem sgL_a {S S' : Nat → Option mO} {sr : Nat → Int} {it : Bool} {b2 hi2 e2 o2 : Nat} : ∀ (k o a l hi p e o' : Nat), sgL S sr it k o a l hi p e o' → (∀ b, a ≤ b → b < hi → ¬ b = l → S' b = S b) →
    (∀ (kd num vl : Int) (y : Int64) (inn : Option Nat), S l = some (stO kd num vl y inn none) → S' l = some (stO kd num vl y inn (some b2))) → sr e = 59 → e < e2 → hi ≤ b2 → stK S' sr (clX S' sr) it o' b2 none hi2 (e + 1) e2 o2 → sgL S' sr it (k + 1) o a b2 hi2 p e2 o2
  | 0, o, a, l, hi, p, e, o', h, hS, hn, he, he2, hb, hk => by
    obtain ⟨rfl, h⟩ := h
    have := stK_lt hk
    have := stK_lt h
    exact ⟨b2, hi, e, o', stK_c (Nat.le_refl _) (fun b x y => hS b (by omega) y (by omega)) (fun b q r x y => clX_c (Nat.le_refl _) (fun c u v => hS c (by omega) v (by omega)) y) hn h, he, ⟨hb, by omega⟩, he2, rfl, hk⟩
  | k + 1, o, a, l, hi, p, e, o', h, hS, hn, he, he2, hb, hk => by
    obtain ⟨b, mid, e1, o1, h1, h2, h3, h4, h5⟩ := h
    have l1 := stK_lt h1
    have l2 := stK_lt hk
    have l3 := sgL_l k o1 b l hi (e1 + 1) e o' h5
    exact ⟨b, mid, e1, o1, stK_c (Nat.le_refl _) (fun c x y => hS c (by omega) (by omega) (by omega)) (fun c q r x y => clX_c (Nat.le_refl _) (fun g u v => hS g (by omega) (by omega) (by omega)) y) (fun kd num vl y inn g => by rw [hS a (Nat.le_refl _) (by omega) (by omega)]; exact g) h1, h2, ⟨h3.1, by omega⟩, by omega,
      sgL_a k o1 b l hi (e1 + 1) e o' h5 (fun c x y z => hS c (by omega) y z) hn he he2 hb hk⟩

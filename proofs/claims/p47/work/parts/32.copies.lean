/-! ===== contracts of the reference: copies; a step a ===== -/
def cpF (f g : Nat → Int) (k : Nat) : Nat → Int := fun q => if q < k then f q else g q
theorem cpF_0 (f g : Nat → Int) : cpF f g 0 = g := by funext q; simp [cpF]
theorem cpF_s (f g : Nat → Int) (k : Nat) : updI (cpF f g k) k (f k) = cpF f g (k + 1) := by
  funext q
  unfold updI cpF
  by_cases h : q = k
  · subst h; simp
  · by_cases h2 : q < k
    · simp [h, h2, Nat.lt_succ_of_lt h2]
    · have h3 : ¬ q < k + 1 := by omega
      simp [h, h2, h3]
def brL (pool : Nat → Int) : Nat → Nat → Int → Nat
  | 0, to, _ => to
  | n + 1, to, u => if 0 < u then brL pool n (to + 1) (u + brk (pool to)) else to
def brStop (pool : Nat → Int) : Nat → Nat → Int → Prop
  | 0, _, u => ¬ 0 < u
  | n + 1, to, u => 0 < u → brStop pool n (to + 1) (u + brk (pool to))
def ftF (pool : Nat → Int) (n e : Nat) : Int × Int := if pool e = 123 then ((e : Int) + 1, (brL pool (n + 1) (e + 1) 1 : Int) + -1) else ((e : Int), (e : Int))
abbrev openP (m : Nat → Int) (a : Int) : Prop := 0 ≤ a ∧ a ≤ m 0 - 1 ∧ m (18 + 4 * a).toNat = 0
def takenV (m pool : Nat → Int) (N p e : Nat) (a : Int) : Int := if openP m a then (if 0 ≤ hbL m pool p e N 0 then 102 else if N = 90 then 103 else 0) else 101
def takenM (m pool : Nat → Int) (N n p e : Nat) (a : Int) : Nat → Int := if takenV m pool N p e a = 0 then takesM m pool N a p e (ftF pool n e).1 (ftF pool n e).2 else m
theorem hbL_r {m rc : Nat → Int} {fr to : Nat} : ∀ n t : Nat, -5 ≤ hbL m rc fr to n t ∧ hbL m rc fr to n t ≤ t + n
  | 0, t => by unfold hbL; omega
  | n + 1, t => by
    have h := hbL_r (m := m) (rc := rc) (fr := fr) (to := to) n (t + 1)
    unfold hbL
    split <;> omega
theorem neL_r (pool : Nat → Int) : ∀ n k : Nat, k ≤ neL pool n k ∧ neL pool n k ≤ k + n
  | 0, k => ⟨Nat.le_refl _, Nat.le_refl _⟩
  | n + 1, k => by
    have h := neL_r pool n (k + 1)
    unfold neL
    split <;> omega
section mg_69
end mg_69
section mg_70
/-! ===== the reference: shutting a scope, a task that is over ===== -/
theorem loT_v {m : Nat → Int} {s : Int} : ∀ (n t : Nat) (r : Int × Int), (r.1 = -5 ∨ (0 ≤ r.1 ∧ r.1 < t)) → ((loT m s n t r).1 = -5 ∨ (0 ≤ (loT m s n t r).1 ∧ (loT m s n t r).1 < t + n))
  | 0, t, r, h => by unfold loT; omega
  | n + 1, t, r, h => by
    unfold loT
    have := loT_v (m := m) (s := s) n (t + 1) (if heldB m t = true ∧ m (259 + 14 * t) = s ∧ r.2 ≤ m (260 + 14 * t) then ((t : Int), m (260 + 14 * t)) else r) (by split <;> (try simp only []) <;> omega)
    omega
theorem loS_v {m : Nat → Int} {s : Int} {N : Int} : ∀ (n c : Nat) (r : Int × Int), 1 ≤ c → (r.1 = -5 ∨ (0 ≤ r.1 ∧ r.1 < N) ∨ (101 ≤ r.1 ∧ r.1 < 100 + c)) → ((loS m s n c r).1 = -5 ∨ (0 ≤ (loS m s n c r).1 ∧ (loS m s n c r).1 < N) ∨ (101 ≤ (loS m s n c r).1 ∧ (loS m s n c r).1 < 100 + c + n))
  | 0, c, r, h1, h => by unfold loS; omega
  | n + 1, c, r, h1, h => by
    unfold loS
    have := loS_v (m := m) (s := s) (N := N) n (c + 1) (if openB m c = true ∧ m (19 + 4 * c) = s ∧ r.2 ≤ m (20 + 4 * c) then (100 + (c : Int), m (20 + 4 * c)) else r) (by omega) (by split <;> (try simp only []) <;> omega)
    omega
theorem lastM_v (m : Nat → Int) (s : Int) (N C : Nat) (hC : 1 ≤ C) : lastM m s N C = -5 ∨ (0 ≤ lastM m s N C ∧ lastM m s N C < N) ∨ (101 ≤ lastM m s N C ∧ lastM m s N C < 100 + C) := by
  have h := loS_v (m := m) (s := s) (N := (N : Int)) (C - 1) 1 (loT m s N 0 (-5, -1)) (Nat.le_refl _) (by have := loT_v (m := m) (s := s) N 0 (-5, -1) (Or.inl rfl); omega)
  unfold lastM
  omega
def lastI (m : Nat → Int) (s : Int) : Int := lastM m s (m 1).toNat (m 0).toNat
theorem lastI_r {m : Nat → Int} (hok : mOk m) (h1 : 1 ≤ m 0) (s : Int) : lastI m s = -5 ∨ (0 ≤ lastI m s ∧ lastI m s < m 1) ∨ (101 ≤ lastI m s ∧ lastI m s < 100 + m 0) := by
  obtain ⟨hM, k0, k1, k2, k3, k4, k5, k7⟩ := hok
  have := lastM_v m s (m 1).toNat (m 0).toNat (by omega)
  unfold lastI
  omega
/-- the loop of shuts: cl closes a thing, sh shuts a scope -/
def shLoopR (cl : (Nat → Int) → Nat → (Nat → Int) → Prop) (sh : (Nat → Int) → Int → (Nat → Int) → Prop) (s : Int) : Nat → (Nat → Int) → (Nat → Int) → Prop
  | 0, m, m' => mOk m ∧ 1 ≤ m 0 ∧ lastI m s < 0 ∧ m' = m
  | k + 1, m, m' => mOk m ∧ 1 ≤ m 0 ∧ ((lastI m s < 0 ∧ m' = m) ∨ ((0 ≤ lastI m s ∧ lastI m s < 100) ∧ ∃ m1, cl m (lastI m s).toNat m1 ∧ shLoopR cl sh s k m1 m') ∨ (100 ≤ lastI m s ∧ ∃ m1, sh m (lastI m s - 100) m1 ∧ shLoopR cl sh s k m1 m'))
theorem shLoopR_ok {cl : (Nat → Int) → Nat → (Nat → Int) → Prop} {sh : (Nat → Int) → Int → (Nat → Int) → Prop} {s : Int} : ∀ (k : Nat) (m m' : Nat → Int), shLoopR cl sh s k m m' → mOk m ∧ 1 ≤ m 0
  | 0, _, _, h => ⟨h.1, h.2.1⟩
  | _ + 1, _, _, h => ⟨h.1, h.2.1⟩
/-- a scope is shut; scopes in it go at most so deep -/
def shutsR (pool : Nat → Int) (sink : Int) : Nat → (Nat → Int) → Int → (Nat → Int) → Prop
  | 0, _, _, _ => False
  | n + 1, m, s, m' => mOk m ∧ InR s ∧ ((¬ openP m s ∧ m' = m) ∨ (openP m s ∧ ∃ k m2, shLoopR (closesR pool sink 91) (shutsR pool sink n) s k (updI m (18 + 4 * s).toNat 1) m2 ∧ m' = updI m2 (18 + 4 * s).toNat (if s = 0 then 0 else 2)))
end mg_70

section mg_68
/-- a step that is no ?: from m it comes to m' with the fault f; cl: what closing a thing does -/
def stpR (pool : Nat → Int) (cl : (Nat → Int) → Nat → (Nat → Int) → Prop) (m : Nat → Int) (p : Nat) (s2 f : Int) (m' : Nat → Int) : Prop :=
  mOk m ∧ InR s2 ∧ p + 40 ≤ 12342 ∧
  ((pool p = 43 ∧ (48 ≤ pool (p + 1) ∧ pool (p + 1) ≤ 55) ∧ f = 0 ∧ ∃ n, digR pool (p + 3) n ∧ m' = updI m (10 + pool (p + 1) - 48).toNat (wrap (m (10 + pool (p + 1) - 48).toNat + numAt pool n (p + 3)))) ∨
   (pool p = 33 ∧ m' = m ∧ ∃ n, digR pool (p + 1) n ∧ f = numAt pool n (p + 1)) ∨
   (pool p = 97 ∧ ∃ n, p + 10 + n ≤ 12341 ∧ (pool (neL pool 7 (p + 1)) = 123 → brStop pool n ((neL pool 7 (p + 1)) + 1) 1) ∧ f = takenV m pool (m 1).toNat (p + 1) (neL pool 7 (p + 1)) s2 ∧ m' = takenM m pool (m 1).toNat n (p + 1) (neL pool 7 (p + 1)) s2) ∨
   (pool p = 120 ∧ (((hbL m pool (p + 1) (neL pool 7 (p + 1)) (m 1).toNat 0) < 0 ∧ f = 104 ∧ m' = m) ∨ (0 ≤ (hbL m pool (p + 1) (neL pool 7 (p + 1)) (m 1).toNat 0) ∧ f = 0 ∧ cl m (hbL m pool (p + 1) (neL pool 7 (p + 1)) (m 1).toNat 0).toNat m'))) ∨
   (pool p = 109 ∧ ∃ n, digR pool ((neL pool 7 (p + 1)) + 1) n ∧ InR (numAt pool n ((neL pool 7 (p + 1)) + 1)) ∧ (((hbL m pool (p + 1) (neL pool 7 (p + 1)) (m 1).toNat 0) < 0 ∧ f = 104 ∧ m' = m) ∨ (0 ≤ (hbL m pool (p + 1) (neL pool 7 (p + 1)) (m 1).toNat 0) ∧ ¬ openP m (numAt pool n ((neL pool 7 (p + 1)) + 1)) ∧ f = 105 ∧ m' = m) ∨ (0 ≤ (hbL m pool (p + 1) (neL pool 7 (p + 1)) (m 1).toNat 0) ∧ openP m (numAt pool n ((neL pool 7 (p + 1)) + 1)) ∧ f = 0 ∧ m' = movesM m (hbL m pool (p + 1) (neL pool 7 (p + 1)) (m 1).toNat 0).toNat (numAt pool n ((neL pool 7 (p + 1)) + 1))))) ∨
   (pool p = 107 ∧ (48 ≤ pool (p + 1) ∧ pool (p + 1) ≤ 57) ∧ f = (if (pool (p + 1) - 48) ≤ m 3 - 1 ∧ m (1610 + 72 * (pool (p + 1) - 48)).toNat = 0 then 0 else 106) ∧ m' = (if (pool (p + 1) - 48) ≤ m 3 - 1 ∧ m (1610 + 72 * (pool (p + 1) - 48)).toNat = 0 then updI m (1614 + 72 * (pool (p + 1) - 48)).toNat 1 else m)) ∨
   ((¬ pool p = 33 ∧ ¬ pool p = 43 ∧ ¬ pool p = 63 ∧ ¬ pool p = 97 ∧ ¬ pool p = 107 ∧ ¬ pool p = 109 ∧ ¬ pool p = 120) ∧ f = 0 ∧ m' = m))
end mg_68

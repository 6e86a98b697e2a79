section EXG
variable {pool : Nat → Int} {sink : Int} {cl : (Nat → Int) → Nat → (Nat → Int) → Prop} {sh : (Nat → Int) → Int → (Nat → Int) → Prop} {n : Nat}
def SXG (sh : (Nat → Int) → Int → (Nat → Int) → Prop) (pool : Nat → Int) (n : Nat) : Prop := ∀ (m : Nat → Int) (s : Nat) (B : Int), Inv m pool B → ScI m → NC m → B ≤ 1900000000 → 61 ≤ n + s → (s : Int) < m 0 → (∀ c : Nat, s < c → (c : Int) < m 0 → ¬ m (18 + 4 * c) = 1) →
  ∃ m', sh m s m' ∧ Inv m' pool B ∧ ScI m' ∧ Es m m' ∧ (m (18 + 4 * s) = 0 → m' (18 + 4 * s) = if s = 0 then 0 else 2)
def shB (cl : (Nat → Int) → Nat → (Nat → Int) → Prop) (sh : (Nat → Int) → Int → (Nat → Int) → Prop) (m : Nat → Int) (s : Int) (m' : Nat → Int) : Prop := mOk m ∧ InR s ∧ ((¬ openP m s ∧ m' = m) ∨ (openP m s ∧ ∃ k m2, shLoopR cl sh s k (updI m (18 + 4 * s).toNat 1) m2 ∧ m' = updI m2 (18 + 4 * s).toNat (if s = 0 then 0 else 2)))
end EXG

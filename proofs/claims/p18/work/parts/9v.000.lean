/-! ===== closings, shuttings and turns come to their end, whatever closes a thing and shuts a scope ===== -/
def CXG (cl : (Nat → Int) → Nat → (Nat → Int) → Prop) (pool : Nat → Int) (n : Nat) : Prop := ∀ (m : Nat → Int) (t : Nat) (B : Int), Inv m pool B → B + 130 * n ≤ 2000000000 → 91 ≤ n + cnt (cngB m) (m 1).toNat → (t : Int) < m 1 → m (258 + 14 * t) = 0 →
  ∃ m', cl m t m' ∧ Inv m' pool B ∧ Ev m m' ∧ m 2 < m' 2 ∧ m' (258 + 14 * t) = 2
section EXG
variable {pool : Nat → Int} {sink : Int} {cl : (Nat → Int) → Nat → (Nat → Int) → Prop} {sh : (Nat → Int) → Int → (Nat → Int) → Prop} {n : Nat}
end EXG

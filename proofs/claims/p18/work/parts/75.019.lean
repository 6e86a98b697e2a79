section mg_77
end mg_77
section mg_78
/-! ===== every closing comes to its end ===== -/
theorem hbL_held {m rc : Nat → Int} {fr to : Nat} : ∀ n t : Nat, 0 ≤ hbL m rc fr to n t → m (258 + 14 * (hbL m rc fr to n t).toNat) = 0 ∧ hbL m rc fr to n t < t + n
  | 0, t, h => by unfold hbL at h; omega
  | n + 1, t, h => by
    unfold hbL at h ⊢
    split
    · rename_i c
      have := c.1
      simp only [heldB, decide_eq_true_eq] at this
      rw [Int.toNat_natCast]
      exact ⟨this, by omega⟩
    · rename_i c
      rw [if_neg c] at h
      have := hbL_held n (t + 1) h
      exact ⟨this.1, by omega⟩
def poolOk (pool : Nat → Int) : Prop := ∀ q, 0 ≤ pool q ∧ pool q ≤ 127
theorem poolOk.r {pool : Nat → Int} (h : poolOk pool) (q : Nat) : InR (pool q) := by have := h q; exact ⟨by omega, by omega⟩
def CX (pool : Nat → Int) (sink : Int) (n : Nat) : Prop := ∀ (m : Nat → Int) (t : Nat) (B : Int), Inv m pool B → B + 130 * n ≤ 2000000000 → 91 ≤ n + cnt (cngB m) (m 1).toNat → (t : Int) < m 1 → m (258 + 14 * t) = 0 →
  ∃ m', closesR pool sink n m t m' ∧ Inv m' pool B ∧ Ev m m' ∧ m 2 < m' 2 ∧ m' (258 + 14 * t) = 2
section EX
variable {pool : Nat → Int} {sink : Int} {n : Nat} {m : Nat → Int} {B s2 : Int} {k p e : Nat}
end EX
end mg_78

section mg_72
end mg_72
section mg_73
/-! ===== the reference: rows copied, THE LOG laid, names compared ===== -/
def cpR (rw : Nat → Int) (a b lo hi : Nat) : Nat → Int := fun q => if b + lo ≤ q ∧ q < b + hi then rw (a + (q - b)) else rw q
theorem cpR_0 (rw : Nat → Int) (a b k : Nat) : cpR rw a b k k = rw := by
  funext q; unfold cpR; rw [if_neg (by omega)]
theorem cpR_up (rw : Nat → Int) (a b k : Nat) : updI (cpR rw a b 0 k) (b + k) (rw (a + k)) = cpR rw a b 0 (k + 1) := by
  funext q
  unfold updI cpR
  by_cases h : q = b + k
  · subst h; rw [if_pos rfl, if_pos (by omega)]; congr 1; omega
  · rw [if_neg h]
    by_cases h2 : b + 0 ≤ q ∧ q < b + k
    · rw [if_pos h2, if_pos (by omega)]
    · rw [if_neg h2, if_neg (by omega)]
theorem cpR_dn (rw : Nat → Int) (a b k n : Nat) (hk : k < n) : updI (cpR rw a b (k + 1) n) (b + k) (rw (a + k)) = cpR rw a b k n := by
  funext q
  unfold updI cpR
  by_cases h : q = b + k
  · subst h; rw [if_pos rfl, if_pos (by omega)]; congr 1; omega
  · rw [if_neg h]
    by_cases h2 : b + (k + 1) ≤ q ∧ q < b + n
    · rw [if_pos h2, if_pos (by omega)]
    · rw [if_neg h2, if_neg (by omega)]
theorem cpR_n {rw : Nat → Int} {a b lo hi q : Nat} (h : ¬ (b + lo ≤ q ∧ q < b + hi)) : cpR rw a b lo hi q = rw q := if_neg h
def copyV (rwd : Nat → Int) (r i o j n : Int) : Int := if (0 ≤ r ∧ r ≤ 3) ∧ (0 ≤ o ∧ o ≤ 3) then (if rwd r.toNat < 0 ∨ rwd o.toNat < 0 then -11 else (if n < 0 ∨ i < 0 ∨ j < 0 ∨ rwd r.toNat - i < n ∨ rwd o.toNat - j < n then -13 else n)) else -1
abbrev copyDo (rwd : Nat → Int) (r i o j n : Int) : Prop := ((0 ≤ r ∧ r ≤ 3) ∧ (0 ≤ o ∧ o ≤ 3)) ∧ (0 ≤ rwd r.toNat ∧ 0 ≤ rwd o.toNat) ∧ 0 ≤ n ∧ 0 ≤ i ∧ 0 ≤ j ∧ n ≤ rwd r.toNat - i ∧ n ≤ rwd o.toNat - j
end mg_73

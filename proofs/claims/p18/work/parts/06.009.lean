section mg_21
end mg_21
section mg_22
/-! ===== contracts of the reference: counting loops ===== -/
def cnt (p : Nat → Bool) : Nat → Int
  | 0 => 0
  | n + 1 => cnt p n + (if p n then 1 else 0)
theorem cnt_t {p : Nat → Bool} {n : Nat} (h : p n = true) : cnt p n + 1 = cnt p (n + 1) := by simp [cnt, h]
theorem cnt_f {p : Nat → Bool} {n : Nat} (h : p n = false) : cnt p n + 0 = cnt p (n + 1) := by simp [cnt, h]
theorem cnt_r (p : Nat → Bool) (n : Nat) : 0 ≤ cnt p n ∧ cnt p n ≤ n := by
  induction n with
  | zero => exact ⟨Int.le_refl _, Int.le_refl _⟩
  | succ n ih =>
    simp only [cnt]
    split <;> omega
def heldB (m : Nat → Int) (q : Nat) : Bool := decide (m (258 + 14 * q) = 0)
def openB (m : Nat → Int) (q : Nat) : Bool := decide (m (18 + 4 * q) = 0)
def readyB (m : Nat → Int) (q : Nat) : Bool := decide (m (1610 + 72 * q) = 0)
theorem n_held (t : Nat) : (258 + 14 * (t : Int)).toNat = 258 + 14 * t := by omega
theorem n_open (t : Nat) : (18 + 4 * (t : Int)).toNat = 18 + 4 * t := by omega
theorem n_ready (t : Nat) : (1610 + 72 * (t : Int)).toNat = 1610 + 72 * t := by omega
end mg_22

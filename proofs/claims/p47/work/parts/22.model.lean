/-! ===== contracts of the reference: counting loops ===== -/
def cnt (p : Nat → Bool) : Nat → Int
  | 0 => 0
  | n + 1 => cnt p n + (if p n then 1 else 0)
theorem cnt_t {p : Nat → Bool} {n : Nat} (h : p n = true) : cnt p n + 1 = cnt p (n + 1) := by simp [cnt, h]
theorem cnt_f {p : Nat → Bool} {n : Nat} (h : p n = false) : cnt p n + 0 = cnt p (n + 1) := by simp [cnt, h]
theorem cnt_r (p : Nat → Bool) (n : Nat) : 0 ≤ cnt p n ∧ cnt p n ≤ n := by
  induction n with
  | zero => exact ⟨Int.le_refl _, Int.le_refl _⟩
  | succ n ih =>
    simp only [cnt]
    split <;> omega
def heldB (m : Nat → Int) (q : Nat) : Bool := decide (m (258 + 14 * q) = 0)
def openB (m : Nat → Int) (q : Nat) : Bool := decide (m (18 + 4 * q) = 0)
def readyB (m : Nat → Int) (q : Nat) : Bool := decide (m (1610 + 72 * q) = 0)
theorem n_held (t : Nat) : (258 + 14 * (t : Int)).toNat = 258 + 14 * t := by omega
theorem n_open (t : Nat) : (18 + 4 * (t : Int)).toNat = 18 + 4 * t := by omega
theorem n_ready (t : Nat) : (1610 + 72 * (t : Int)).toNat = 1610 + 72 * t := by omega
def shutB (m : Nat → Int) (a : Int) (q : Nat) : Bool := decide (m (21 + 4 * q) = a ∧ ¬ m (18 + 4 * q) = 2)
def faultB (m : Nat → Int) (a : Int) (q : Nat) : Bool := decide (m (2328 + 3 * q) = a)
def entTB (m : Nat → Int) (a : Int) (q : Nat) : Bool := decide (m (258 + 14 * q) = 0 ∧ m (259 + 14 * q) = a)
def entSB (m : Nat → Int) (a : Int) (q : Nat) : Bool := decide (¬ m (18 + 4 * q) = 2 ∧ m (19 + 4 * q) = a)
theorem n_x3 (t : Nat) (c : Int) (h : 0 ≤ c) : (18 + 4 * (t : Int) + c).toNat = 18 + 4 * t + c.toNat := by omega
theorem n_sc3 (t : Nat) : (18 + 4 * (t : Int) + 3).toNat = 21 + 4 * t := by omega
theorem n_sc0 (t : Nat) : (18 + 4 * (t : Int) + 0).toNat = 18 + 4 * t := by omega
theorem n_sc1 (t : Nat) : (18 + 4 * (t : Int) + 1).toNat = 19 + 4 * t := by omega
theorem n_th1 (t : Nat) : (258 + 14 * (t : Int) + 1 + 0).toNat = 259 + 14 * t := by omega
theorem n_fa (t : Nat) : (2328 + 3 * (t : Int)).toNat = 2328 + 3 * t := by omega
def entSC (m : Nat → Int) (a : Int) (q : Nat) : Bool := decide (1 ≤ q) && entSB m a q
theorem cnt_1 (m : Nat → Int) (a : Int) : cnt (entSC m a) 1 = 0 := by simp [cnt, entSC]
def entsN (m : Nat → Int) (a : Int) (N C : Nat) : Int := cnt (entTB m a) N + cnt (entSC m a) C
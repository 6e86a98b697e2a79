/-! ===== contracts of the reference: entries by their stamps ===== -/
def stampV (m : Nat → Int) (e : Nat) : Int := if e < 100 then m (260 + 14 * e) else m (20 + 4 * (e - 100))
abbrev entryP (m : Nat → Int) (N C : Nat) (a : Int) (e : Nat) : Prop := if e < 100 then (e < N ∧ m (258 + 14 * e) = 0 ∧ m (259 + 14 * e) = a) else (e < C + 100 ∧ 100 < e ∧ ¬ m (18 + 4 * (e - 100)) = 2 ∧ m (19 + 4 * (e - 100)) = a)
theorem entryP_t {m : Nat → Int} {N C e : Nat} {a : Int} (h : e < 100) : entryP m N C a e ↔ (e < N ∧ m (258 + 14 * e) = 0 ∧ m (259 + 14 * e) = a) := by unfold entryP; rw [if_pos h]
theorem entryP_s {m : Nat → Int} {N C e : Nat} {a : Int} (h : ¬ e < 100) : entryP m N C a e ↔ (e < C + 100 ∧ 100 < e ∧ ¬ m (18 + 4 * (e - 100)) = 2 ∧ m (19 + 4 * (e - 100)) = a) := by unfold entryP; rw [if_neg h]
def eaL (m : Nat → Int) (N C : Nat) (a st : Int) : Nat → Nat → Int → Int
  | 0, _, f => f
  | n + 1, e, f => eaL m N C a st n (e + 1) (if entryP m N C a e ∧ stampV m e < st ∧ (f < 0 ∨ stampV m f.toNat < stampV m e) then (e : Int) else f)
theorem stampV_r {m : Nat → Int} (hM : ∀ q, InR (m q)) (e : Nat) : InR (stampV m e) := by unfold stampV; split <;> exact hM _
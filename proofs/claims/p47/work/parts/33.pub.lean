/-! ===== contracts of the reference: some of the face ===== -/
def wrongV (rwd : Nat → Int) (a : Int) : Int := if 0 ≤ a ∧ a ≤ 3 then (if rwd a.toNat < 0 then -11 else 0) else -1
theorem wrong_r {rwd : Nat → Int} {a : Int} : InR (wrongV rwd a) := by unfold wrongV; split <;> (try split) <;> decide
def setV (rwd : Nat → Int) (a i : Int) : Int := if wrongV rwd a = 0 then (if 0 ≤ i ∧ i ≤ rwd a.toNat - 1 then 1 else -13) else wrongV rwd a
theorem wrong_0 {rwd : Nat → Int} {a : Int} (h : wrongV rwd a = 0) : 0 ≤ a ∧ a ≤ 3 ∧ 0 ≤ rwd a.toNat := by
  unfold wrongV at h
  split at h
  · split at h
    · exact absurd h (by decide)
    · rename_i h1 h2; exact ⟨h1.1, h1.2, by omega⟩
  · exact absurd h (by decide)
def paperV (f18 : Int) (pap : Nat → Int) (i : Int) : Int := if 0 ≤ i ∧ i ≤ f18 - 1 then pap i.toNat else -1
def logV (m : Nat → Int) (i : Int) : Int := if 0 ≤ i ∧ i ≤ m 2 - 1 then m (1518 + i).toNat else -1
def openV (m : Nat → Int) (a : Int) : Int := if 0 ≤ a ∧ a ≤ m 0 - 1 then (if openP m a then (if m 0 = 60 then -4 else m 0) else -3) else -1
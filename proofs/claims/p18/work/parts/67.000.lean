/-! ===== the reference: a step, by its kind: x, m, ? ===== -/
theorem neL_ge {pool : Nat → Int} : ∀ n k : Nat, k ≤ neL pool n k ∧ neL pool n k ≤ k + n
  | 0, k => by unfold neL; omega
  | n + 1, k => by
    have h := neL_ge (pool := pool) n (k + 1)
    unfold neL
    split <;> omega
theorem hbL_lt {m rc : Nat → Int} {fr to : Nat} : ∀ n t : Nat, 0 ≤ hbL m rc fr to n t → hbL m rc fr to n t < t + n
  | 0, t, h => by unfold hbL at h; omega
  | n + 1, t, h => by
    unfold hbL at h
    unfold hbL
    split
    · omega
    · rename_i c
      rw [if_neg c] at h
      have := hbL_lt n (t + 1) h
      omega

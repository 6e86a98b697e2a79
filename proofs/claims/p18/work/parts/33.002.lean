section mg_33
def setV (rwd : Nat → Int) (a i : Int) : Int := if wrongV rwd a = 0 then (if 0 ≤ i ∧ i ≤ rwd a.toNat - 1 then 1 else -13) else wrongV rwd a
theorem wrong_0 {rwd : Nat → Int} {a : Int} (h : wrongV rwd a = 0) : 0 ≤ a ∧ a ≤ 3 ∧ 0 ≤ rwd a.toNat := by
  unfold wrongV at h
  split at h
  · split at h
    · exact absurd h (by decide)
    · rename_i h1 h2; exact ⟨h1.1, h1.2, by omega⟩
  · exact absurd h (by decide)
end mg_33

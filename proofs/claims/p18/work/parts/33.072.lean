section mg_44
def plF (pool tape : Nat → Int) (p a k : Nat) : Nat → Int := fun q => if p ≤ q ∧ q < p + k then tape (a + (q - p)) else pool q
theorem plF_0 (pool tape : Nat → Int) (p a : Nat) : plF pool tape p a 0 = pool := by funext q; unfold plF; rw [if_neg (by omega)]
theorem plF_s (pool tape : Nat → Int) (p a k : Nat) : updI (plF pool tape p a k) (p + k) (tape (a + k)) = plF pool tape p a (k + 1) := by
  funext q
  unfold updI plF
  by_cases h : q = p + k
  · rw [if_pos h, if_pos (by omega), h, show a + (p + k - p) = a + k by omega]
  · rw [if_neg h]
    by_cases h2 : p ≤ q ∧ q < p + k
    · rw [if_pos h2, if_pos (by omega)]
    · rw [if_neg h2, if_neg (by omega)]
def pooledP (pool tape : Nat → Int) (p a b : Nat) : Nat → Int := updI (plF pool tape p a (b - a)) (p + (b - a)) 0
end mg_44

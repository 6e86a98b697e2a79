section mg_73
def layR (rw m : Nat → Int) (b k : Nat) : Nat → Int := fun q => if b ≤ q ∧ q < b + k then m (1518 + (q - b)) else rw q
theorem layR_0 (rw m : Nat → Int) (b : Nat) : layR rw m b 0 = rw := by
  funext q; unfold layR; rw [if_neg (by omega)]
theorem layR_s (rw m : Nat → Int) (b k : Nat) : updI (layR rw m b k) (b + k) (m (1518 + k)) = layR rw m b (k + 1) := by
  funext q
  unfold updI layR
  by_cases h : q = b + k
  · subst h; rw [if_pos rfl, if_pos (by omega)]; congr 1; omega
  · rw [if_neg h]
    by_cases h2 : b ≤ q ∧ q < b + k
    · rw [if_pos h2, if_pos (by omega)]
    · rw [if_neg h2, if_neg (by omega)]
/-- how many numbers of THE LOG find a place -/
def layN (L rd i : Int) : Nat := if i < 0 then 0 else (if L ≤ rd - i then L.toNat else (rd - i).toNat)
def layV (m rwd : Nat → Int) (r i : Int) : Int := if wrongV rwd r = 0 then (if m 2 ≤ 0 ∨ (0 ≤ i ∧ m 2 ≤ rwd r.toNat - i) then m 2 else -13) else wrongV rwd r
end mg_73

section mg_c4
section NT
variable {m pool c : Nat → Int} {S : Nat → Option mO} {C : Nat → Nat → Int} {nm : Nat → Int64} {g : Nat → Option Nat}
theorem nt_v {a b : Int} {len T N : Nat} (hT3 : m 3 = (T : Int)) (hN : m 0 = (N : Int)) (h60 : N < 60) : newTaskM m a b len (1608 + 72 * T) = N ∧ newTaskM m a b len (1609 + 72 * T) = b ∧ newTaskM m a b len (1611 + 72 * T) = m 8 ∧ newTaskM m a b len (1616 + 72 * T) = m 8 ∧ newTaskM m a b len (1617 + 72 * T) = m 8 + len ∧ newTaskM m a b len (1619 + 72 * T) = 1 ∧ newTaskM m a b len (1620 + 72 * T) = N ∧
    ∀ q, (q = 1610 + 72 * T ∨ q = 1612 + 72 * T ∨ q = 1613 + 72 * T ∨ q = 1614 + 72 * T ∨ q = 1615 + 72 * T ∨ q = 1618 + 72 * T) → newTaskM m a b len q = 0 := by
  have oz : ∀ q, 1608 + 72 * T ≤ q → q < 1680 + 72 * T → opensM (updI (zrF (updI m 3 (m 3 + 1)) (1608 + 72 * T) 72) 8 (m 8 + (len : Nat) + 1)) N a (m 3) q = 0 := fun q h1 h2 => by
    obtain ⟨-, -, -, -, -, -, oe⟩ := opensM_at (m := updI (zrF (updI m 3 (m 3 + 1)) (1608 + 72 * T) 72) 8 (m 8 + (len : Nat) + 1)) (C := N) (p := a) (t := m 3)
    rw [oe q (by omega) (by omega) (by omega), updI_n (by omega)]
    unfold zrF
    rw [if_pos ⟨h1, by omega⟩]
  unfold newTaskM
  rw [hT3, hN, show ((T : Int)).toNat = T by omega, show ((N : Int)).toNat = N by omega]
  rw [hT3] at oz
  refine ⟨?_, ?_, ?_, ?_, ?_, ?_, ?_, fun q hq => ?_⟩
  · rw [updI_n (by omega), updI_n (by omega), updI_n (by omega), updI_n (by omega), updI_n (by omega), updI_n (by omega), updI_s]
  · rw [updI_n (by omega), updI_n (by omega), updI_n (by omega), updI_n (by omega), updI_n (by omega), updI_s]
  · rw [updI_n (by omega), updI_n (by omega), updI_n (by omega), updI_n (by omega), updI_s]
  · rw [updI_n (by omega), updI_n (by omega), updI_n (by omega), updI_s]
  · rw [updI_n (by omega), updI_n (by omega), updI_s]
  · rw [updI_n (by omega), updI_s]
  · rw [updI_s]
  · rw [updI_n (by omega), updI_n (by omega), updI_n (by omega), updI_n (by omega), updI_n (by omega), updI_n (by omega), updI_n (by omega)]
    exact oz q (by omega) (by omega)
end NT
end mg_c4

section mg_c3
section CT
variable {m m' pool pool' c c' : Nat → Int} {S S' : Nat → Option mO} {C C' : Nat → Nat → Int} {nm nm' : Nat → Int64} {g g' : Nat → Option Nat} {B : Int}
end CT
end mg_c3
section mg_c4
/-! ===== a new task, on both sides ===== -/
section NT
variable {m pool c : Nat → Int} {S : Nat → Option mO} {C : Nat → Nat → Int} {nm : Nat → Int64} {g : Nat → Option Nat}
theorem nt_o {a b : Int} {len T N : Nat} (hT3 : m 3 = (T : Int)) (hN : m 0 = (N : Int)) {q : Nat} (h : q < 1608 + 72 * T ∨ 1680 + 72 * T ≤ q) : newTaskM m a b len q = opensM (updI (zrF (updI m 3 (m 3 + 1)) (1608 + 72 * T) 72) 8 (m 8 + (len : Nat) + 1)) N a (m 3) q := by
  unfold newTaskM
  rw [hT3, hN, show ((T : Int)).toNat = T by omega, show ((N : Int)).toNat = N by omega, updI_n (by omega), updI_n (by omega), updI_n (by omega), updI_n (by omega), updI_n (by omega), updI_n (by omega), updI_n (by omega)]
end NT
end mg_c4

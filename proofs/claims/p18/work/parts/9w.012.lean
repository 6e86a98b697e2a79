section mg_9y
section CHG2
variable {x : Int} {m pool c : Nat → Int} {S : Nat → Option mO} {C : Nat → Nat → Int} {nm : Nat → Int64} {g : Nat → Option Nat}
theorem CRx.one (h : CRx 0 m pool S c C nm g) : CRx 1 m pool S c C nm g := by
  obtain ⟨n, T, A, K, L, e, ⟨F, f⟩, G, R⟩ := h
  obtain ⟨f1, f2, f3⟩ := f
  exact ⟨n, T, A, K, L, e, ⟨F, f1, by omega, f3⟩, G, R⟩
end CHG2
end mg_9y
section mg_9z
/-! ===== what comes, what is moved, a scope's end ===== -/
section CHG3
variable {x : Int} {m pool c : Nat → Int} {S : Nat → Option mO} {C : Nat → Nat → Int} {nm : Nat → Int64} {g : Nat → Option Nat}
theorem nmR_take {rc : Nat → Int} {N fr to : Nat} {o p e : Int} (h7 : to - fr ≤ 7) (hft : fr ≤ to) : nmR (takesM m rc N o fr to p e) N = nmY rc fr to := by
  unfold nmR nmY nmN
  rw [takesM_ln, show ((to : Int) - fr).toNat = to - fr by omega]
  have e1 : cdN (nmG (takesM m rc N o fr to p e) (265 + 14 * N) (265 + 14 * N + (to - fr))) 7 = cdN (nmG rc fr to) 7 := cdN_c 7 (fun j hj => by
    unfold nmG
    by_cases w : fr + j < to
    · rw [if_pos (by omega), if_pos w, takesM_nm h7 hj, if_pos (by omega)]
    · rw [if_neg (by omega), if_neg w])
  rw [e1]
end CHG3
end mg_9z

section mg_77
/-! a THING comes -/
theorem nwL_at {rc : Nat → Int} {t fr : Nat} : ∀ (n k : Nat) (m : Nat → Int) (q : Nat), fr ≤ k → nwL rc t fr n k m q = if 265 + 14 * t + (k - fr) ≤ q ∧ q < 265 + 14 * t + (k - fr) + n then rc (fr + (q - (265 + 14 * t))) else m q
  | 0, k, m, q, h => by
    unfold nwL; rw [if_neg (by omega)]
  | n + 1, k, m, q, h => by
    unfold nwL
    rw [nwL_at n (k + 1) _ q (by omega)]
    by_cases c : q = 265 + 14 * t + (k - fr)
    · subst c
      rw [if_neg (by omega), updI_s, if_pos (by omega)]
      congr 1; omega
    · rw [updI_n c]
      by_cases d : 265 + 14 * t + (k + 1 - fr) ≤ q ∧ q < 265 + 14 * t + (k + 1 - fr) + n
      · rw [if_pos d, if_pos (by omega)]
      · rw [if_neg d, if_neg (by omega)]
theorem namesM_at {m rc : Nat → Int} {t fr to q : Nat} : namesM m rc t fr to q = if 265 + 14 * t ≤ q ∧ q < 265 + 14 * t + (to - fr) then rc (fr + (q - (265 + 14 * t))) else updI m (261 + 14 * t) ((to : Int) - fr) q := by
  unfold namesM
  rw [nwL_at _ _ _ _ (Nat.le_refl _), Nat.sub_self, Nat.add_zero]
section TK
variable {m rc : Nat → Int} {N fr to : Nat} {o p e : Int}
theorem takesM_n (h7 : to - fr ≤ 7) {q : Nat} (h1 : ¬ q = 1) (h6 : ¬ q = 6) (hq : q < 258 + 14 * N ∨ 272 + 14 * N ≤ q) : takesM m rc N o fr to p e q = m q := by
  unfold takesM
  rw [updI_n (by omega), updI_n (by omega), updI_n (by omega), namesM_at, if_neg (by omega), updI_n (by omega), updI_n (by omega), updI_n (by omega), updI_n (by omega), updI_n (by omega), updI_n (by omega)]
theorem takesM_1 : takesM m rc N o fr to p e 1 = N + 1 := by
  unfold takesM
  rw [updI_n (by omega), updI_n (by omega), updI_n (by omega), namesM_at, if_neg (by omega), updI_n (by omega), updI_n (by omega), updI_n (by omega), updI_n (by omega), updI_n (by omega), updI_s]
theorem takesM_6 : takesM m rc N o fr to p e 6 = m 6 + 1 := by
  unfold takesM
  rw [updI_n (by omega), updI_n (by omega), updI_n (by omega), namesM_at, if_neg (by omega), updI_n (by omega), updI_n (by omega), updI_s]
theorem takesM_st : takesM m rc N o fr to p e (258 + 14 * N) = 0 := by
  unfold takesM
  rw [updI_n (by omega), updI_n (by omega), updI_n (by omega), namesM_at, if_neg (by omega), updI_n (by omega), updI_n (by omega), updI_n (by omega), updI_n (by omega), updI_s]
theorem takesM_ow : takesM m rc N o fr to p e (259 + 14 * N) = o := by
  unfold takesM
  rw [updI_n (by omega), updI_n (by omega), updI_n (by omega), namesM_at, if_neg (by omega), updI_n (by omega), updI_n (by omega), updI_n (by omega), updI_s]
theorem takesM_sp : takesM m rc N o fr to p e (260 + 14 * N) = m 6 + 1 := by
  unfold takesM
  rw [updI_n (by omega), updI_n (by omega), updI_n (by omega), namesM_at, if_neg (by omega), updI_n (by omega), updI_s]
theorem takesM_ln : takesM m rc N o fr to p e (261 + 14 * N) = (to : Int) - fr := by
  unfold takesM
  rw [updI_n (by omega), updI_n (by omega), updI_n (by omega), namesM_at, if_neg (by omega), updI_s]
theorem takesM_p : takesM m rc N o fr to p e (262 + 14 * N) = p := by
  unfold takesM
  rw [updI_n (by omega), updI_n (by omega), updI_s]
theorem takesM_e : takesM m rc N o fr to p e (263 + 14 * N) = e := by
  unfold takesM
  rw [updI_n (by omega), updI_s]
theorem takesM_pl : takesM m rc N o fr to p e (264 + 14 * N) = -5 := by
  unfold takesM
  rw [updI_s]
theorem takesM_nm (h7 : to - fr ≤ 7) {k : Nat} (hk : k < 7) : takesM m rc N o fr to p e (265 + 14 * N + k) = if k < to - fr then rc (fr + k) else m (265 + 14 * N + k) := by
  unfold takesM
  rw [updI_n (by omega), updI_n (by omega), updI_n (by omega), namesM_at]
  by_cases c : k < to - fr
  · rw [if_pos (by omega), if_pos c]
    congr 1; omega
  · rw [if_neg (by omega), if_neg c, updI_n (by omega), updI_n (by omega), updI_n (by omega), updI_n (by omega), updI_n (by omega), updI_n (by omega)]
end TK
theorem takesM_in {m rc : Nat → Int} (hM : ∀ q, InR (m q)) (hr : ∀ q, InR (rc q)) {N fr to : Nat} {o p e : Int} (h6 : InR (m 6 + 1)) (hN : N ≤ 89) (ho : InR o) (hp : InR p) (he : InR e) (h7 : to - fr ≤ 7) (hft : fr ≤ to) : ∀ q, InR (takesM m rc N o fr to p e q) := by
  intro q
  unfold takesM
  refine updM_in (updM_in (updM_in (fun q => ?_) hp) he) (by decide) q
  rw [namesM_at]
  split
  · exact hr _
  · exact updM_in (updM_in (updM_in (updM_in (updM_in (updM_in hM ⟨by omega, by omega⟩) (by decide)) ho) h6) h6) ⟨by omega, by omega⟩ q
end mg_77

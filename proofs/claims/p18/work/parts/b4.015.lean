section mg_b8
section FL
variable {m pool c : Nat → Int} {S : Nat → Option mO} {C : Nat → Nat → Int} {nm : Nat → Int64} {g : Nat → Option Nat}
/-- which: a place in the class's rows and one in the reference's -/
theorem pw_task (hC : CR m pool S c C nm g) {i : Nat} {k : Int} {N F : Nat} (hN : m 4 = (N : Int)) (hF : c 11 = (F : Int)) (hk : 0 ≤ k ∧ k < cnt (faultB m i) N) : ∃ p : Nat, pwF c (C 5) F (i : Int) k = p ∧ p < F ∧ C 3 p = m (2329 + 3 * faJ m i N 0 k) ∧ C 4 p = m (2330 + 3 * faJ m i N 0 k) := by
  obtain ⟨-, -, -, -, -, -, ⟨F', f0⟩, -⟩ := id hC
  obtain rfl : F' = F := by have := f0.1.1; omega
  have b0 : b0F c (i : Int) = 0 := by unfold b0F; rw [if_neg (by omega)]
  have tot := flt_cnt f0 i F' (Nat.le_refl _)
  rw [← f0.2.2.2.1, hN, show ((N : Int)).toNat = N by omega] at tot
  unfold pwF
  rw [b0, Nat.sub_zero]
  obtain ⟨p, e, ⟨-, hp⟩, gp, cp⟩ := po_at (b := 0) (f := C 5) (i := (i : Int)) (k := k) F' 0 (by rw [show cnt (gbB 0 (C 5) (i : Int)) 0 = 0 from rfl]; exact hk.1) (by rw [Nat.zero_add, ← tot]; exact hk.2)
  rw [Nat.zero_add] at hp
  have g5 : C 5 p = (i : Int) := (of_decide_eq_true gp).2
  obtain ⟨x1, x2, x3⟩ := f0.2.2.2.2.1 p hp (by omega)
  have ca := flt_cnt f0 i p (by omega)
  have r := cnt_r (faB (C 5)) p
  have r2 : cnt (faB (C 5)) p + 1 ≤ cnt (faB (C 5)) F' := by
    have y := cnt_mono (p := faB (C 5)) (show p + 1 ≤ F' by omega)
    rw [cnt_S, if_pos (show faB (C 5) p = true from decide_eq_true (by omega))] at y
    exact y
  have fj : faJ m (i : Int) N 0 k = (cnt (faB (C 5)) p).toNat := fa_at (decide_eq_true (by rw [x1]; exact g5)) N 0 k (Nat.zero_le _) (by have := f0.2.2.2.1; omega) (by rw [ca, cp]; show k = 0 + k; omega)
  refine ⟨p, e, hp, ?_, ?_⟩
  · rw [fj]; exact x2.symm
  · rw [fj]; exact x3.symm
end FL
end mg_b8

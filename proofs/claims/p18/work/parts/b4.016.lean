section mg_b8
section FL
variable {m pool c : Nat → Int} {S : Nat → Option mO} {C : Nat → Nat → Int} {nm : Nat → Int64} {g : Nat → Option Nat}
theorem pw_call (hC : CR m pool S c C nm g) {k : Int} {F : Nat} (hF : c 11 = (F : Int)) (hk : 0 ≤ k ∧ k < m 5) : ∃ p : Nat, pwF c (C 5) F (-1) k = p ∧ p < F ∧ C 3 p = m (2688 + 2 * k.toNat) ∧ C 4 p = m (2689 + 2 * k.toNat) := by
  obtain ⟨-, -, -, -, -, -, ⟨F', f0⟩, -⟩ := id hC
  obtain rfl : F' = F := by have := f0.1.1; omega
  have b0 : b0F c (-1) = (c 4).toNat := by unfold b0F; rw [if_pos rfl]
  have c4 := f0.2.2.1
  unfold pwF
  rw [b0]
  obtain ⟨p, e, ⟨hp1, hp⟩, gp, cp⟩ := po_at (b := (c 4).toNat) (f := C 5) (i := -1) (k := k) (F' - (c 4).toNat) (c 4).toNat (by rw [gbB_0]; exact hk.1) (by rw [show (c 4).toNat + (F' - (c 4).toNat) = F' by omega, ← f0.2.2.2.2.2.1]; exact hk.2)
  have g5 : C 5 p = -1 := (of_decide_eq_true gp).2
  obtain ⟨x1, x2⟩ := f0.2.2.2.2.2.2 p (by omega) (by omega) g5
  rw [cp] at x1 x2
  exact ⟨p, e, by omega, x1.symm, x2.symm⟩
/-- none at that place -/
theorem pw_none (hC : CR m pool S c C nm g) (hT : TKR m pool c S g 99) (hok : mOk m) {t : Int} (ht : t = -1 ∨ (0 ≤ t ∧ t ≤ m 3 - 1)) {N F : Nat} (hN : m 4 = (N : Int)) (hF : c 11 = (F : Int)) (h0 : manyV m N t = 0) : ofF c t = 0 ∧ pwF c (C 5) F t 0 = -1 := by
  have fc := fc_eq hC hT hok ht hN hF
  rw [h0] at fc
  unfold fcF at fc
  have r := cnt_r (gbB (b0F c t) (C 5) t) F
  have z : ofF c t = 0 := by
    by_cases w : ofF c t = 0
    · exact w
    · rw [if_neg w] at fc; omega
  rw [if_pos z] at fc
  refine ⟨z, ?_⟩
  unfold pwF
  refine po_no _ _ (Or.inr ?_)
  obtain ⟨-, -, -, -, -, -, ⟨F', f0⟩, -⟩ := id hC
  have c4 := f0.2.2.1
  have e11 := f0.1.1
  have b : b0F c t ≤ F := by unfold b0F; split <;> omega
  rw [show b0F c t + (F - b0F c t) = F by omega]
  omega
end FL
end mg_b8

section mg_42
end mg_42
section mg_43
/-! ===== contracts of the reference: isFine, row, pooled ===== -/
theorem J_and (p q : Bool) : J (bz p) &&& J (bz q) = J (bz (p && q)) := by
  rw [J_def, J_def, J_def]
  cases p <;> cases q <;> decide
theorem rj_iandB {G : mG} {l : Launch} {d : Nat} {M : mM} {pc : Nat} {ls : List (Option Value)} {st : List Value} {h : mH} {Q : Option Value → mH → Prop} {p q : Bool} (hdg : decode M.2.1 pc = .ok (.iand, 1)) (K : RUN G l d M (pc + 1) ls (.int (J (bz (p && q))) :: st) h Q) : RUN G l d M pc ls (.int (J (bz q)) :: .int (J (bz p)) :: st) h Q := r_iand hdg (by rw [J_and]; exact K)
theorem b01_z {p : Prop} [Decidable p] : b01 p = bz (decide p) := bz_d.symm
def fineL (m : Nat → Int) (t : Int) : Nat → Nat → Bool → Bool
  | 0, _, b => b
  | n + 1, k, b => fineL m t n (k + 1) (b && decide (openP m (m (1620 + 72 * t + k).toNat)))
def fineV (m : Nat → Int) (t : Int) : Bool := fineL m t (m (1619 + 72 * t).toNat).toNat 0 (decide (m (1614 + 72 * t).toNat = 0))
end mg_43

section mg_c5
section CW
variable {m pool c c' : Nat → Int} {S : Nat → Option mO} {C C' : Nat → Nat → Int} {nm nm' : Nat → Int64} {g g' : Nat → Option Nat}
theorem wbC_at {c c2 : Nat → Int} {N s K q : Nat} (hq : q ≤ 4 ∨ (8 ≤ q ∧ q ≤ 13) ∨ (32 ≤ q ∧ q < 32 + 3 * N) ∨ (304 ≤ q ∧ q < 304 + 3 * s) ∨ (488 ≤ q ∧ q < 488 + 9 * K)) : wbC c c2 N s K q = c2 q := by
  have l : ∀ (x : Nat → Int) k, x q = c2 q ∨ q = k → updI x k (c2 k) q = c2 q := fun x k hx => by
    by_cases w : q = k
    · subst w; exact updI_s
    · rw [updI_n w]; exact hx.resolve_right w
  have mx : ∀ (x : Nat → Int) lo hi, x q = c2 q ∨ (lo ≤ q ∧ q < hi) → mixR x c2 lo hi q = c2 q := fun x lo hi hx => by
    unfold mixR
    by_cases w : lo ≤ q ∧ q < hi
    · rw [if_pos w]
    · rw [if_neg w]; exact hx.resolve_right w
  have od : ∀ {A B : Prop}, (¬ B → A) → A ∨ B := fun {A B} h => by
    by_cases w : B
    · exact Or.inr w
    · exact Or.inl (h w)
  unfold wbC fbC
  refine l _ _ (od (fun w4 => ?_))
  refine l _ _ (od (fun w13 => ?_))
  refine l _ _ (od (fun w12 => ?_))
  refine l _ _ (od (fun w11 => ?_))
  refine l _ _ (od (fun w10 => ?_))
  refine l _ _ (od (fun w9 => ?_))
  refine l _ _ (od (fun w8 => ?_))
  refine l _ _ (od (fun w3 => ?_))
  refine mx _ _ _ (od (fun wk => ?_))
  refine l _ _ (od (fun w2 => ?_))
  refine mx _ _ _ (od (fun ws => ?_))
  refine l _ _ (od (fun w1 => ?_))
  refine mx _ _ _ (od (fun wt => ?_))
  refine l _ _ (od (fun w0 => ?_))
  omega
theorem wbC_r {c c2 : Nat → Int} (h1 : ∀ q, InR (c q)) (h2 : ∀ q, InR (c2 q)) {N s K : Nat} : ∀ q, InR (wbC c c2 N s K q) := by
  have mx : ∀ (x : Nat → Int) lo hi, (∀ q, InR (x q)) → ∀ q, InR (mixR x c2 lo hi q) := fun x lo hi hx q => by
    unfold mixR; split
    · exact h2 _
    · exact hx q
  unfold wbC fbC
  exact updI_r (updI_r (updI_r (updI_r (updI_r (updI_r (updI_r (updI_r (mx _ _ _ (updI_r (mx _ _ _ (updI_r (mx _ _ _ (updI_r h1 (h2 _))) (h2 _))) (h2 _))) (h2 _)) (h2 _)) (h2 _)) (h2 _)) (h2 _)) (h2 _)) (h2 _)) (h2 _)
theorem wbD_at {C C2 : Nat → Nat → Int} {sz : Nat → Nat} {j q : Nat} (hj : j < 6) (hq : q < sz j) : wbD C C2 sz j q = C2 j q := by
  have hit : ∀ X : Nat → Nat → Int, ibD X C2 sz j j q = C2 j q := fun X => by
    unfold ibD cpyF
    rw [updC_s, if_pos hq]
  have mis : ∀ (X : Nat → Nat → Int) k, ¬ j = k → ibD X C2 sz k j q = X j q := fun X k h => by
    unfold ibD
    rw [updC_n h]
  unfold wbD
  have hj2 : j = 0 ∨ j = 1 ∨ j = 2 ∨ j = 3 ∨ j = 4 ∨ j = 5 := by omega
  rcases hj2 with rfl | rfl | rfl | rfl | rfl | rfl
  · rw [mis _ 5 (by decide), mis _ 4 (by decide), mis _ 3 (by decide), mis _ 2 (by decide), mis _ 1 (by decide)]; exact hit _
  · rw [mis _ 5 (by decide), mis _ 4 (by decide), mis _ 3 (by decide), mis _ 2 (by decide)]; exact hit _
  · rw [mis _ 5 (by decide), mis _ 4 (by decide), mis _ 3 (by decide)]; exact hit _
  · rw [mis _ 5 (by decide), mis _ 4 (by decide)]; exact hit _
  · rw [mis _ 5 (by decide)]; exact hit _
  · exact hit _
theorem wbD_r {C C2 : Nat → Nat → Int} (h1 : ∀ k q, InR (C k q)) (h2 : ∀ k q, InR (C2 k q)) {sz : Nat → Nat} : ∀ k q, InR (wbD C C2 sz k q) := by
  have st : ∀ (X : Nat → Nat → Int) j, (∀ k q, InR (X k q)) → ∀ k q, InR (ibD X C2 sz j k q) := fun X j hx => by
    unfold ibD
    refine updC_r hx (fun q => ?_)
    unfold cpyF; split
    · exact h2 _ _
    · exact hx _ _
  unfold wbD
  exact st _ _ (st _ _ (st _ _ (st _ _ (st _ _ (st _ _ h1)))))
end CW
end mg_c5
section mg_c6
/-! ===== a world becomes another: both sides ===== -/
end mg_c6

section mg_c3
section CT
variable {m m' pool pool' c c' : Nat → Int} {S S' : Nat → Option mO} {C C' : Nat → Nat → Int} {nm nm' : Nat → Int64} {g g' : Nat → Option Nat} {B : Int}
theorem ctr_rank (h : CTR m pool S c C nm g) (hT : TkM m pool 99) (hok : mOk m) {q : Nat} {p : Int} (hq : (q : Int) < m 3) (hp : InR p) : CTR (updI m (1609 + 72 * q) p) pool S (updI c (490 + 9 * q) p) C nm g := by
  have k3 := hok.2.2.2.2.1
  have um : ∀ j, ¬ j = 1609 + 72 * q → updI m (1609 + 72 * q) p j = m j := fun j w => updI_n w
  have uc : ∀ j, ¬ j = 490 + 9 * q → updI c (490 + 9 * q) p j = c j := fun j w => updI_n w
  obtain ⟨hC, hK⟩ := h
  have y : CR (updI m (1609 + 72 * q) p) pool S (updI c (490 + 9 * q) p) C nm g := hC.see hok (Int.le_refl _) (fun j hj => um j (fun w => by
    subst w
    rcases hj with w | w | w | ⟨t, w | w⟩ <;> omega)) (fun j hj => uc j (fun w => by
    subst w
    rcases hj with w | w | w | w | w | ⟨t, w | w⟩ <;> omega)) (fun j => by
    obtain ⟨-, -, -, -, -, -, -, -, R⟩ := hC
    by_cases w : j = 490 + 9 * q
    · subst w; rw [updI_s]; exact hp
    · rw [uc j w]; exact R.1 j) (fun _ _ => rfl)
  have hKq : TKR m pool c S g q := ⟨hK.1, fun u hu => ⟨(hK.2 u hu).1, fun _ => (hK.2 u hu).2 (by omega)⟩⟩
  obtain ⟨kA, kC⟩ := hK.2 q hq
  refine ⟨y, (hKq.ch (m' := updI m (1609 + 72 * q) p) (c' := updI c (490 + 9 * q) p) (g' := g) k3.2 hT.nn (um 3 (by omega)) (by rw [uc 3 (by omega), um 7 (by omega)]; exact hK.1) (fun j a b d w => um j (by omega)) (fun j a b w => uc j (by omega)) (fun _ _ _ => rfl) (fun _ => ?_)).fin (fun z => ?_)⟩
  · obtain ⟨b1, b2, b3, b4, b5, b6, b7, b8, b9, P', E', b10, b11, b12, b13⟩ := kA
    refine ⟨?_, by rw [updI_s, updI_s], ?_, ?_, ?_, ?_, b7, b8, b9, P', E', ?_, ?_, b12, b13⟩
    · rw [uc _ (by omega), um _ (by omega)]; exact b1
    · rw [uc _ (by omega), um _ (by omega)]; exact b3
    · rw [uc _ (by omega), um _ (by omega)]; exact b4
    · rw [uc _ (by omega), um _ (by omega)]; exact b5
    · rw [uc _ (by omega), um _ (by omega)]; exact b6
    · rw [um _ (by omega)]; exact b10
    · rw [um _ (by omega)]; exact b11
  · rw [um _ (by omega)] at z
    obtain ⟨z0, o, p', E, r1, r2, r3, r4, r5⟩ := kC (by omega) z
    exact ⟨by rw [um _ (by omega)]; exact z0, o, p', E, by rw [um _ (by omega)]; exact r1, by rw [um _ (by omega)]; exact r2, by rw [um _ (by omega)]; exact r3, by rw [uc _ (by omega), um _ (by omega)]; exact r4, r5⟩
end CT
end mg_c3

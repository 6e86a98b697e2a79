section mg_a7
theorem next_eq {m pool c : Nat → Int} {S : Nat → Option mO} {g : Nat → Option Nat} (hK : crK m c) (hT : TKR m pool c S g 99) {K : Nat} (h3 : m 3 = (K : Int)) (h10 : K ≤ 10) : rpL c K 0 K 0 = nextV m := by
  have rd : ∀ u, u < K → (readyB m u = true ↔ c (489 + 9 * u) = 0) := fun u hu => by
    rw [(hK u (by omega)).1]; unfold readyB; exact decide_eq_true_iff
  have ra : ∀ a u, a < K → u < K → (raB c a u = true ↔ (c (489 + 9 * u) = 0 ∧ aheadP m u a)) := fun a u ha hu => by
    obtain ⟨⟨-, p1, -, l1, -⟩, -⟩ := hT.2 a (by omega)
    obtain ⟨⟨-, p2, -, l2, -⟩, -⟩ := hT.2 u (by omega)
    unfold raB caP
    rw [decide_eq_true_iff, p1, p2, l1, l2]
    refine and_congr Iff.rfl ?_
    unfold aheadP
    constructor <;> intro g <;> omega
  unfold nextV
  rw [h3, show ((K : Int)).toNat = K by omega]
  rcases nx_n (m := m) K 0 with ⟨e, w⟩ | ⟨w, e, ⟨-, w1, w2⟩, w3⟩
  · rw [e]; exact rp_n K 0 (fun u x y z => w u x y ((rd u (by omega)).mpr z))
  · rw [e]
    refine rp_w ((rd w (by omega)).mp w2) (cnt_zero K (fun j hj => ?_)) (fun u hu hu2 hu3 => ?_) K 0 (by omega) w1 (by omega)
    · rw [← Bool.not_eq_true]
      intro g
      have g := (ra w j (by omega) hj).mp g
      rcases w3 j (by omega) (by omega) ((rd j hj).mpr g.1) with z | z
      · subst z; have := g.2; unfold aheadP at this; omega
      · have z2 := g.2; unfold aheadP at z z2; omega
    · have z := w3 u (by omega) (by omega) ((rd u hu).mpr hu3)
      refine cnt_one (w := w) ((ra u w hu (by omega)).mpr ⟨(rd w (by omega)).mp w2, ?_⟩) K (by omega)
      rcases z with z | z
      · exact absurd z hu2
      · exact z
end mg_a7

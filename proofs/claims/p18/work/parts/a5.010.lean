section mg_a7
/-! how many faults a task has -/
theorem flt_cnt {m c : Nat → Int} {C : Nat → Nat → Int} {x : Int} {F : Nat} (h : crF m c C x F) (q : Nat) : ∀ n, n ≤ F → cnt (faultB m q) (cnt (faB (C 5)) n).toNat = cnt (gbB 0 (C 5) q) n
  | 0, _ => rfl
  | n + 1, hn => by
    have ih := flt_cnt h q n (by omega)
    have r := cnt_r (faB (C 5)) n
    rw [cnt_S, cnt_S (p := gbB 0 (C 5) q), ← ih]
    by_cases c0 : 0 ≤ C 5 n
    · obtain ⟨e, -⟩ := h.2.2.2.2.1 n (by omega) c0
      rw [if_pos (show faB (C 5) n = true from decide_eq_true c0), show (cnt (faB (C 5)) n + 1).toNat = (cnt (faB (C 5)) n).toNat + 1 by omega, cnt_S]
      have e2 : faultB m q (cnt (faB (C 5)) n).toNat = gbB 0 (C 5) q n := by
        unfold faultB gbB
        rw [e]
        by_cases z : C 5 n = (q : Int)
        · rw [decide_eq_true z, decide_eq_true (p := 0 ≤ n ∧ C 5 n = (q : Int)) ⟨Nat.zero_le _, z⟩]
        · rw [decide_eq_false z, decide_eq_false (p := 0 ≤ n ∧ C 5 n = (q : Int)) (fun g => z g.2)]
      rw [e2]
    · rw [if_neg (show ¬ faB (C 5) n = true from fun g => c0 (of_decide_eq_true g)), if_neg (show ¬ gbB 0 (C 5) q n = true from fun g => c0 (by have := (of_decide_eq_true g).2; omega)), Int.add_zero, Int.add_zero]
/-! whether its scopes are open, it isn't asked to cancel -/
theorem fine_l {m : Nat → Int} {t : Int} : ∀ (n k : Nat) (b : Bool), fineL m t n k b = true ↔ b = true ∧ ∀ j : Nat, k ≤ j → j < k + n → openP m (m (1620 + 72 * t + j).toNat)
  | 0, k, b => ⟨fun g => ⟨g, fun j x y => by omega⟩, fun g => g.1⟩
  | n + 1, k, b => by
    unfold fineL
    rw [fine_l n (k + 1), Bool.and_eq_true, decide_eq_true_iff]
    constructor
    · rintro ⟨⟨a, b⟩, d⟩
      refine ⟨a, fun j x y => ?_⟩
      by_cases e : j = k
      · subst e; exact b
      · exact d j (by omega) (by omega)
    · rintro ⟨a, d⟩
      exact ⟨⟨a, d k (Nat.le_refl _) (by omega)⟩, fun j x y => d j (by omega) (by omega)⟩
theorem chain_op {m : Nat → Int} (hs : ScI m) (hns : NS m) (h60 : m 0 ≤ 60) {t o : Nat} (hk : stkOk m t (o + 1)) (h : m (18 + 4 * (m (1620 + 72 * t + o)).toNat) = 0) : ∀ i j : Nat, j + i = o → m (18 + 4 * (m (1620 + 72 * t + j)).toNat) = 0
  | 0, j, e => by rw [show j = o by omega]; exact h
  | i + 1, j, e => by
    have ih := chain_op hs hns h60 hk h i (j + 1) (by omega)
    obtain ⟨-, k1, k2⟩ := hk
    have a := k1 (j + 1) (by omega)
    have a0 := k1 j (by omega)
    have b := k2 j (by omega)
    obtain ⟨-, x⟩ := hs.2.2 (m (1620 + 72 * t + (j + 1))).toNat (by omega)
    obtain ⟨-, -, y⟩ := x (by omega)
    rw [b] at y
    have z := y (by rw [ih]; decide)
    have r := (hs.2.2 (m (1620 + 72 * t + j)).toNat (by omega)).1
    have w := hns (m (1620 + 72 * t + j)).toNat (by omega)
    omega
theorem fine_iff {m : Nat → Int} (hs : ScI m) (hns : NS m) (h60 : m 0 ≤ 60) {t o u : Nat} (hn : m (1619 + 72 * t) = (o : Int) + 1) (hk : stkOk m t (o + 1)) (hu : m (1620 + 72 * t + o) = u) : fineV m (t : Int) = true ↔ m (1614 + 72 * t) = 0 ∧ m (18 + 4 * u) = 0 := by
  unfold fineV
  rw [fine_l, decide_eq_true_iff, show (1614 + 72 * (t : Int)).toNat = 1614 + 72 * t by omega, show (1619 + 72 * (t : Int)).toNat = 1619 + 72 * t by omega, hn, show ((o : Int) + 1).toNat = o + 1 by omega]
  refine and_congr Iff.rfl ?_
  have ej : ∀ j : Nat, (1620 + 72 * (t : Int) + (j : Int)).toNat = 1620 + 72 * t + j := fun j => by omega
  constructor
  · intro g
    have x := g o (by omega) (by omega)
    rw [ej, hu] at x
    exact (openP_nat.mp x).2
  · intro g j _ hj
    rw [ej]
    have c := chain_op hs hns h60 hk (by rw [hu, show ((u : Int)).toNat = u by omega]; exact g) (o - j) j (by omega)
    have a := hk.2.1 j (by omega)
    rw [show m (1620 + 72 * t + j) = (((m (1620 + 72 * t + j)).toNat : Nat) : Int) by omega]
    exact openP_nat.mpr ⟨by omega, c⟩
end mg_a7
section mg_a8
/-! ===== a step of a task, on both sides ===== -/
theorem RUNM.ex {G : mG} {l : Launch} {d : Nat} {M : mM} {args : List Value} {h : mH} {Q : Option Value → mH → Prop} (k : RUNM G l d M args h Q) : ∃ v h', Q v h' ∧ RUNM G l d M args h (fun v' h'' => v' = v ∧ h'' = h') := by
  obtain ⟨a, b, v, h', e, q⟩ := k
  exact ⟨v, h', q, a, b, v, h', e, rfl, rfl⟩
/-- what a step of another kind than ( and ) leaves alone -/
def few (m m' : Nat → Int) : Prop := m' 0 = m 0 ∧ m 2 ≤ m' 2 ∧ (∀ c : Nat, c < 60 → m' (18 + 4 * c) = m (18 + 4 * c)) ∧ ∀ k, 1608 ≤ k → k < 2328 → (∀ t : Nat, k ≠ 1614 + 72 * t) → m' k = m k
theorem few.rf {m : Nat → Int} : few m m := ⟨rfl, Int.le_refl _, fun _ _ => rfl, fun _ _ _ _ => rfl⟩
end mg_a8

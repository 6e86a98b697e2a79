section mg_c1
section BN
variable {m c : Nat → Int} {nm : Nat → Int64}
theorem hd_eq (hT : crT m c nm) (hst : ∀ t : Nat, (t : Int) < m 1 → 0 ≤ m (258 + 14 * t) ∧ m (258 + 14 * t) ≤ 2) {t : Nat} (ht : (t : Int) < m 1) : c (32 + 3 * t) = 0 ↔ heldB m t = true := by
  unfold heldB
  rw [(hT t ht).1, swT_0 (hst t ht), decide_eq_true_iff]
theorem nm_lt (hT : crT m c nm) {t u : Nat} (ht : (t : Int) < m 1) (hu : (u : Int) < m 1) : (nm t).toInt < (nm u).toInt ↔ agT m t u < 0 := by
  rw [(hT t ht).2.2.2.1, (hT u hu).2.2.2.1]
  exact nmR_lt (hT t ht).2.2.2.2 (hT u hu).2.2.2.2
theorem hp_eq (hT : crT m c nm) (hst : ∀ t : Nat, (t : Int) < m 1 → 0 ≤ m (258 + 14 * t) ∧ m (258 + 14 * t) ≤ 2) {N : Nat} (hN : m 1 = (N : Int)) {i : Int} : ∀ n t, t + n = N → hpL c nm N i n t = bnL m N i n t
  | 0, t, _ => rfl
  | n + 1, t, h => by
    unfold hpL bnL
    have e1 : cnt (haB c nm (nm t)) N = cnt (nmB m t) N := cnt_congr _ (fun q hq => by
      have a := hd_eq hT hst (t := q) (by omega)
      have b := nm_lt hT (t := q) (u := t) (by omega) (by omega)
      unfold haB nmB
      by_cases z : heldB m q = true
      · rw [z, Bool.true_and]; exact decide_eq_decide.mpr ⟨fun g => b.mp g.2, fun g => ⟨a.mpr z, b.mpr g⟩⟩
      · rw [Bool.eq_false_iff.mpr z, Bool.false_and]; exact decide_eq_false (fun g => z (a.mp g.1)))
    have a := hd_eq hT hst (t := t) (by omega)
    rw [e1, hp_eq hT hst hN n (t + 1) (by omega)]
    by_cases z : heldB m t = true ∧ cnt (nmB m t) N = i
    · rw [if_pos z, if_pos ⟨a.mpr z.1, z.2⟩]
    · rw [if_neg z, if_neg (fun g => z ⟨a.mp g.1, g.2⟩)]
end BN
end mg_c1

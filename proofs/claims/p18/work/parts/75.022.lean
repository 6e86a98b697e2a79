section mg_78
theorem loop_ex {pool : Nat → Int} {sink : Int} {n : Nat} (hPo : poolOk pool) (hC : CX pool sink n) {t P E : Nat} (hPE : E ≤ P + 120) : ∀ (k : Nat) (m : Nat → Int) (B : Int) (p : Nat), P ≤ p → (E : Int) ≤ m 8 → Inv m pool B → B + 130 * n + 2 + (E - p : Nat) ≤ 2000000000 → 91 ≤ n + cnt (cngB m) (m 1).toNat → stsC pool k p E →
    ∃ f m', loopR pool (doesR pool (closesR pool sink n)) t E k m p f m' ∧ Inv m' pool (B + (E - p : Nat)) ∧ Ev m m' ∧ InR f
  | 0, m, B, p, _, _, _, _, _, hT => absurd hT id
  | k + 1, m, B, p, hP, hE, h, hB, hn, hT => by
    obtain ⟨e, t1, t2, t3⟩ := hT
    have hlt := stepQ_lt t1
    have heE : e ≤ E := by rcases t3 with t3 | ⟨t3, _⟩ <;> omega
    have hbe := (stepQ_skip (fun a b => stsC_skip k a b) t1).beh (E := E) heE (by rcases t3 with t3 | ⟨_, t3, _⟩; exact Or.inl t3; exact Or.inr t3)
    obtain ⟨f, m1, a, b, c, d⟩ := stepQ_ex (s2 := m (259 + 14 * t)) hPo hC h (by omega) hn (h.1.1 _) t1 (endC_nd t2) (by omega) (by omega)
    by_cases z : f = 0
    · subst z
      rcases t3 with rfl | ⟨t3, t4, t5⟩
      · refine ⟨0, m1, Or.inr ⟨by omega, 0, m1, a, d, Or.inr ⟨rfl, ?_⟩⟩, b.up (by omega), c, by decide⟩
        rw [hbe]
        cases k with
        | zero => exact ⟨by omega, rfl, rfl⟩
        | succ k => exact Or.inl ⟨by omega, rfl, rfl⟩
      · obtain ⟨f2, m2, a2, b2, c2, d2⟩ := loop_ex hPo hC hPE k m1 (B + 1) (e + 1) (by omega) (by rw [c.1 8 (by unfold far; omega)]; exact hE) b (by omega) (by rw [c.cng h.1.2.2.1.1]; exact hn) t5
        refine ⟨f2, m2, Or.inr ⟨by omega, 0, m1, a, d, Or.inr ⟨rfl, ?_⟩⟩, b2.up (by omega), c.tr c2, d2⟩
        rw [hbe]
        exact a2
    · exact ⟨f, m1, Or.inr ⟨by omega, f, m1, a, d, Or.inl ⟨z, rfl, rfl⟩⟩, b.up (by omega), c, d⟩
end mg_78

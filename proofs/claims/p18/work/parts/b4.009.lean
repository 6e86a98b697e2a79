section mg_b6
section BO
variable {G : mG} {l : Launch} {r : Nat} {pool : Nat → Int} {S : Nat → Option mO} {h0 : mH}
/-- so many ticks, row by row -/
theorem both_tickL (hS : ∀ a o, S a = some o → hGet h0 a = some o) (hSr : ∀ a, ¬ S a = none → ¬ rBlk r a) (hPo : poolOk pool) : ∀ (n : Nat) (m : Nat → Int) (B : Int), Mid m pool B → TkM m pool 99 → B + 120 * n ≤ 1700000000 → m 7 + n ≤ 1000000000 →
    ∃ (k : Nat) (s : Nat → Nat → Int), s 0 = m ∧ ticksR pool n m k (s k) ∧ k ≤ n ∧ Mid (s k) pool (B + 120 * n) ∧ TkM (s k) pool 99 ∧ s k 3 = m 3 ∧ s k 7 ≤ m 7 + n ∧ s k 8 = m 8 ∧ m 1 ≤ s k 1 ∧
      (∀ i, i < k → ∀ b0 c4 h, BES r pool S h0 b0 c4 (s i) h → ∃ q : Nat, (q : Int) < 10 ∧ ∃ R1 : mH → Prop, RUNM G l 12 mX3_beginTurn [.ref r] h (fun v h' => v = some (.int (J (q : Int))) ∧ R1 h') ∧ (∀ h', R1 h' → isO3 h' r) ∧ ∀ h', R1 h' → WK G l 12 r h' (BES r pool S h0 (q : Int) c4 (s (i + 1)))) ∧
      (k = n ∨ ∀ b0 c4 h, BES r pool S h0 b0 c4 (s k) h → RUNM G l 12 mX3_beginTurn [.ref r] h (fun v h' => v = some (.int (J (-5))) ∧ h' = h))
  | 0, m, B, hM, hT, hB, h7 => ⟨0, fun _ => m, rfl, ⟨rfl, rfl⟩, Nat.le_refl _, hM.up (by omega), hT, rfl, by show m 7 ≤ m 7 + ((0 : Nat) : Int); omega, rfl, Int.le_refl _, fun i hi => absurd hi (Nat.not_lt_zero _), Or.inl rfl⟩
  | n + 1, m, B, hM, hT, hB, h7 => by
    rcases sim_tick (G := G) (l := l) hS hSr hPo hM hT (by omega) (by omega) with ⟨z, a, k⟩ | ⟨q, z, zq, m', a, a2, a3, a4, a5, a6, k⟩
    · exact ⟨0, fun _ => m, rfl, ⟨m, a, Or.inl ⟨by omega, rfl, rfl⟩⟩, by omega, hM.up (by omega), hT, rfl, by show m 7 ≤ m 7 + ((n + 1 : Nat) : Int); omega, rfl, Int.le_refl _, fun i hi => absurd hi (Nat.not_lt_zero _), Or.inr k⟩
    · obtain ⟨kk, s, s0, t1, t2, t3, t4, t5, t6, t7, t8, t9, t10⟩ := both_tickL hS hSr hPo n m' (B + 120) a2 a3 (by omega) (by omega)
      have k3 := hM.1.1.2.2.2.2.1
      refine ⟨kk + 1, fun i => match i with | 0 => m | j + 1 => s j, rfl, ⟨m', a, Or.inr ⟨by omega, kk, rfl, t1⟩⟩, by omega, t3.up (by omega), t4, by show s kk 3 = m 3; omega, by show s kk 7 ≤ _; omega, by show s kk 8 = m 8; omega, by show m 1 ≤ s kk 1; omega, fun i hi => ?_, ?_⟩
      · cases i with
        | zero =>
          intro b0 c4 h hX
          obtain ⟨R1, r1, r2, r3⟩ := k b0 c4 h hX
          rw [z] at r1
          refine ⟨q, by omega, R1, r1, r2, fun h' w => ?_⟩
          show WK G l 12 r h' (BES r pool S h0 (q : Int) c4 (s 0))
          rw [s0]; exact r3 h' w
        | succ i => exact t9 i (by omega)
      · rcases t10 with t10 | t10
        · exact Or.inl (by omega)
        · exact Or.inr t10
end BO
end mg_b6

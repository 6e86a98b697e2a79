section mg_b6
section BO
variable {G : mG} {l : Launch} {r : Nat} {pool : Nat → Int} {S : Nat → Option mO} {h0 : mH}
/-- calls of run, of a trial -/
theorem both_ticks (hS : ∀ a o, S a = some o → hGet h0 a = some o) (hSr : ∀ a, ¬ S a = none → ¬ rBlk r a) (hPo : poolOk pool) {m : Nat → Int} {B T : Int} {n : Nat} (h : All m pool B T) (hn : n ≤ 100) (hB : B ≤ 1000000000) (hT : T ≤ 900000000) :
    ∃ (k : Nat) (m' : Nat → Int), ticksR pool n m k m' ∧ k ≤ n ∧ All m' pool (B + 12000) (T + 100) ∧ m' 8 = m 8 ∧ ∀ b0 c4 h1, BES r pool S h0 b0 c4 m h1 → RUNM G l 13 mX3_tickUpTo [.ref r, .int (J (n : Int))] h1 (fun v h' => v = some (.int (J (k : Int))) ∧ ∃ b, BES r pool S h0 b c4 m' h') := by
  obtain ⟨h1, h2, h3, h4⟩ := id h
  obtain ⟨k, s, s0, t1, t2, t3, t4, t5, t6, t7, t8, t9, t10⟩ := both_tickL (G := G) (l := l) hS hSr hPo n m B h1 h2 (by omega) (by omega)
  refine ⟨k, s k, t1, t2, ⟨t3.up (by omega), t4, by omega, by omega, by rw [t7]; exact h.2.2.2.2⟩, t7, fun b0 c4 hh hX => ?_⟩
  refine cr_tickUpTo (G := G) (l := l) 12 (T := fun i h' => ∃ b, BES r pool S h0 b c4 (s i) h') (N := k) (M := (n : Int)) ⟨by omega, by omega⟩ (fun i h' w => ?_) (fun i h' hi w => ?_) ?_ ?_
  · obtain ⟨b, w⟩ := w
    exact w.o3
  · obtain ⟨b, w⟩ := w
    obtain ⟨q, hq, R1, r1, r2, r3⟩ := t9 i hi b c4 h' w
    exact ⟨(q : Int), R1, ⟨by omega, by omega⟩, by omega, r1, r2, fun h'' w => (r3 h'' w).mono (fun _ x => ⟨_, x⟩)⟩
  · rcases t10 with t10 | t10
    · exact Or.inl (by omega)
    · refine Or.inr (fun h' w => ?_)
      obtain ⟨b, w⟩ := w
      exact t10 b c4 h' w
  · exact ⟨b0, by show BES r pool S h0 b0 c4 (s 0) hh; rw [s0]; exact hX⟩
end BO
end mg_b6

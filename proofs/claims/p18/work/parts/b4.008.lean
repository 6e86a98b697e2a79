section mg_b6
section BO
variable {G : mG} {l : Launch} {r : Nat} {pool : Nat → Int} {S : Nat → Option mO} {h0 : mH}
theorem BES.o3 {b c4 : Int} {m : Nat → Int} {h : mH} (k : BES r pool S h0 b c4 m h) : isO3 h r := by
  obtain ⟨f, c, C, nm, g, hR, -⟩ := k
  exact hR.o3
theorem WK.mono {G : mG} {l : Launch} {D r : Nat} {h : mH} {R R' : mH → Prop} (k : WK G l D r h R) (f : ∀ h', R h' → R' h') : WK G l D r h R' := RUNM.mono k (fun v h' w => ⟨w.1, f h' w.2⟩)
/-- work that there is none of -/
theorem wk_none {h : mH} {b c4 : Int} {m : Nat → Int} (k : BES r pool S h0 b c4 m h) : WK G l 12 r h (BES r pool S h0 b c4 m) := by
  refine go_wk (T := fun k' h' => k' = 0 ∧ h' = h) (GOES.rf ⟨rfl, rfl⟩) (fun k' h' w => ?_)
  obtain ⟨rfl, rfl⟩ := w
  obtain ⟨f, c, C, nm, g, hR, x2, x3⟩ := k
  exact ⟨by decide, b, f, c, C, nm, g, hR, fun h'' a d => ⟨f, c, C, nm, g, a, x2.trans d, x3⟩⟩
/-- a call of tick -/
theorem both_tick (hS : ∀ a o, S a = some o → hGet h0 a = some o) (hSr : ∀ a, ¬ S a = none → ¬ rBlk r a) (hPo : poolOk pool) {m : Nat → Int} {B T : Int} (h : All m pool B T) (hB : B ≤ 1700000000) (hT : T ≤ 900000000) :
    ∃ m', tickR pool m m' ∧ All m' pool (B + 120) (T + 1) ∧ m' 8 = m 8 ∧ ∀ b0 c4 h1, BES r pool S h0 b0 c4 m h1 → RUNM G l 13 mX3_tickOnce [.ref r] h1 (fun v h' => v = some (.int (J (nextV m))) ∧ ∃ b, BES r pool S h0 b c4 m' h') := by
  obtain ⟨h1, h2, h3, h4⟩ := id h
  rcases sim_tick (G := G) (l := l) hS hSr hPo h1 h2 hB (by omega) with ⟨z, a, k⟩ | ⟨q, z, zq, m', a, a2, a3, a4, a5, a6, k⟩
  · refine ⟨m, a, h.up (by omega) (by omega), rfl, fun b0 c4 hh hX => ?_⟩
    rw [z]
    exact cr_tickOnce (G := G) (l := l) 12 (R1 := BES r pool S h0 b0 c4 m) (R2 := fun h' => ∃ b, BES r pool S h0 b c4 m h') hX.o3 ((k b0 c4 hh hX).mono (fun v h' w => by
      obtain ⟨w1, rfl⟩ := w
      exact ⟨w1, hX⟩)) (fun h' w => w.o3) (fun h' w => (wk_none w).mono (fun _ x => ⟨_, x⟩))
  · refine ⟨m', a, ⟨a2, a3, by omega, by omega, by rw [a6.1]; exact h.2.2.2.2⟩, a6.1, fun b0 c4 hh hX => ?_⟩
    obtain ⟨R1, r1, r2, r3⟩ := k b0 c4 hh hX
    exact cr_tickOnce (G := G) (l := l) 12 (R1 := R1) (R2 := fun h' => ∃ b, BES r pool S h0 b c4 m' h') hX.o3 r1 r2 (fun h' w => (r3 h' w).mono (fun _ x => ⟨_, x⟩))
end BO
end mg_b6

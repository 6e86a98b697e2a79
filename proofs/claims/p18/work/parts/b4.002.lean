section mg_b4
section TI
variable {G : mG} {l : Launch} {r : Nat} {pool : Nat → Int} {S : Nat → Option mO} {h0 : mH}
/-- a tick, on both sides -/
theorem sim_tick (hS : ∀ a o, S a = some o → hGet h0 a = some o) (hSr : ∀ a, ¬ S a = none → ¬ rBlk r a) (hPo : poolOk pool) {m : Nat → Int} {B : Int} (hM : Mid m pool B) (hT : TkM m pool 99) (hB : B ≤ 1700000000) (h7 : m 7 ≤ 1000000000) :
    (nextV m = -5 ∧ tickR pool m m ∧ ∀ b0 c4 h, BES r pool S h0 b0 c4 m h → RUNM G l 12 mX3_beginTurn [.ref r] h (fun v h' => v = some (.int (J (-5))) ∧ h' = h)) ∨
    (∃ q : Nat, nextV m = q ∧ (q : Int) < m 3 ∧ ∃ m', tickR pool m m' ∧ Mid m' pool (B + 120) ∧ TkM m' pool 99 ∧ m' 3 = m 3 ∧ m' 7 = m 7 + 1 ∧ (m' 8 = m 8 ∧ m 1 ≤ m' 1) ∧ ∀ b0 c4 h, BES r pool S h0 b0 c4 m h →
      ∃ R1 : mH → Prop, RUNM G l 12 mX3_beginTurn [.ref r] h (fun v h' => v = some (.int (J (nextV m))) ∧ R1 h') ∧ (∀ h', R1 h' → isO3 h' r) ∧ ∀ h', R1 h' → WK G l 12 r h' (BES r pool S h0 (q : Int) c4 m')) := by
  have k3 := hM.1.1.2.2.2.2.1
  have hp : ∀ t : Nat, (t : Int) < m 3 → -99 ≤ m (1609 + 72 * t) ∧ m (1609 + 72 * t) ≤ 99 := fun t ht => (hT.2 t ht).1.1
  rcases nextV_r hM.1.1 with z | z
  · refine Or.inl ⟨z, ⟨hM.1.1, hp, Or.inl ⟨by omega, rfl⟩⟩, fun b0 c4 h hX => ?_⟩
    obtain ⟨f, c, C, nm, g, hR, hSm, hC, hK, h4⟩ := hX
    obtain ⟨n0, T, A, K, L, E, F0, Gg, hc, hCC⟩ := id hC
    refine cr_noTurn (G := G) (l := l) 8 hR hc (K := (m 3).toNat) (by rw [n0.2.2.1]; omega) (by omega) ?_
    rw [next_eq K hK (K := (m 3).toNat) (by omega) (by omega)]; exact z
  · obtain ⟨q, w1, w2, w3⟩ := nextV_w z.1 k3.1
    obtain ⟨m', t1, t2, t3, t4, t5, t6⟩ := turn_exI hPo (simT_all (G := G) (l := l) (b := (q : Int)) hS hSr ⟨by omega, by omega⟩ hPo) (simS_all (G := G) (l := l) (b := (q : Int)) hS hSr ⟨by omega, by omega⟩ hPo 61) w2 hM hT hB h7 w3
    refine Or.inr ⟨q, w1, w2, m', ⟨hM.1.1, hp, Or.inr ⟨by omega, ?_⟩⟩, t2, t3, t4, t5, t6, fun b0 c4 h hX => ?_⟩
    · rw [w1, show ((q : Int)).toNat = q by omega]
      exact turnI_mo (fun _ _ _ x => x.1.1) (fun _ _ _ x => x.1) t1
    · obtain ⟨f, c, C, nm, g, hR, hSm, hC, hK, h4⟩ := hX
      have := sim_turn hS hSr hPo hM hT h7 w2 w3 w1 hK hR hSm hC ⟨t2.1.1, t2.2.2.1⟩ t1
      rw [h4] at this
      exact this
end TI
end mg_b4

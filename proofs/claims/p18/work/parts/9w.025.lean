section mg_a1
section PFM
variable {G : mG} {l : Launch} {r : Nat} {b z : Int} {f c : Nat → Int} {C : Nat → Nat → Int} {nm : Nat → Int64} {g : Nat → Option Nat} {h : mH} {pool m m' : Nat → Int} {S : Nat → Option mO} {B : Int} {cl : (Nat → Int) → Nat → (Nat → Int) → Prop}
theorem pfm_A (hR : isR h r b z f c C nm g) (hS : ∀ a o, S a = some o → hGet h a = some o) (hSr : ∀ a, ¬ S a = none → ¬ rBlk r a) (hz0 : 0 ≤ z ∧ z < 160) (hC : CR m pool S c C nm g) (hI : Inv m pool B) (hSR : SR m) {k s s0 hi p e : Nat} {nx : Option Nat} (hA : stA S pool (stL S pool k false 0) s nx hi p e) (he : ¬ dgP (pool e)) {s2 fl : Int} (hs2 : InR s2) (hP : stpR pool cl m p s2 fl m') :
    RUN G l 6 mX3_perform 41 [some (.ref r), some (.ref s0), some (.int (J s2)), some (.ref s)] [] h (fun v h' => PFO pool S cl r b z f c C nm g h m m' fl v h') := by
  have hok := hI.1
  have k0 := hok.2.1
  have k1 := hok.2.2.1
  have k3 := hok.2.2.2.2.1
  have hst : ∀ t : Nat, (t : Int) < m 1 → 0 ≤ m (258 + 14 * t) ∧ m (258 + 14 * t) ≤ 2 := fun t ht => (hI.2.2.1 t ht).1
  obtain ⟨n0, T, A, K, L, ⟨Z, e0⟩, ⟨F, f0⟩, Gg, hc, hCC⟩ := id hC
  have hN : c 0 = (((m 1).toNat : Nat) : Int) := by rw [n0.1]; omega
  have hZ : c 10 = (Z : Int) := e0.1
  have hZ1 := e0.2.1
  have hop : ∀ i, opP c i ↔ openP m i := fun i => op_iff n0.2.1 k0.2 A hSR
  obtain ⟨ha, num, vl, y, inn, hs, hA⟩ := hA
  have hsh := hS s _ hs
  have hsr := hSr s (by rw [hs]; exact fun q => by cases q)
  obtain ⟨-, -, hp40, hP⟩ := hP
  rcases hA with ⟨a1, a2, a3, a4, a5, a6⟩ | ⟨a1, a2, a3⟩ | ⟨a1, q, a2, a3, a4⟩ | ⟨a1, a2, a3⟩ | ⟨a1, q, a2, a3, a4, a5, a6⟩ | ⟨a1, a2, a3, a4⟩ | ⟨a1, a2⟩
  · rcases hP with ⟨-, b2, rfl, n, b3, rfl⟩ | ⟨x, -⟩ | ⟨x, -⟩ | ⟨x, -⟩ | ⟨x, -⟩ | ⟨x, -⟩ | ⟨x, -⟩
    · obtain ⟨kk, hkk⟩ : ∃ kk : Nat, pool (p + 1) - 48 = kk := ⟨(pool (p + 1) - 48).toNat, by omega⟩
      refine (pf_plus (G := G) (l := l) 4 hR hc (s0 := s0) hsh a1 (i := s2) n0.2.2.2.1 (hCC 0) (k := kk) (by rw [a5]; exact hkk) (by omega)).mono (fun v h' q => ?_)
      obtain ⟨rfl, q1, q2⟩ := q
      refine ⟨rfl, Or.inr ⟨rfl, Or.inl ⟨_, _, _, _, q1, q2, ?_, KPs.rf⟩⟩⟩
      rw [show (10 + pool (p + 1) - 48).toNat = 10 + kk by omega, sgn_v a4 he b3, ← a6, ← L.1 kk (by omega)]
      exact CR_count hC hok (Int.le_refl _) (by omega) (wrap_r _)
    all_goals (exfalso; omega)
  · rcases hP with ⟨x, -⟩ | ⟨-, rfl, n, b1, rfl⟩ | ⟨x, -⟩ | ⟨x, -⟩ | ⟨x, -⟩ | ⟨x, -⟩ | ⟨x, -⟩
    · exfalso; omega
    · refine ((pf_bang (G := G) (l := l) 6 hR hc (s0 := s0) hsh a1 (i := s2))).mono (fun v h' q => ?_)
      obtain ⟨rfl, rfl⟩ := q
      rw [num_v a2 he b1, ← a3]
      refine ⟨rfl, ?_⟩
      by_cases w : num = 0
      · exact Or.inr ⟨w, Or.inl ⟨c, C, nm, g, hR, Same.refl, hC, KPs.rf⟩⟩
      · exact Or.inl ⟨w, rfl, rfl⟩
    all_goals (exfalso; omega)
  · rcases hP with ⟨x, -⟩ | ⟨x, -⟩ | ⟨-, n, b1, b2, b3, b4⟩ | ⟨x, -⟩ | ⟨x, -⟩ | ⟨x, -⟩ | ⟨x, -⟩
    · exfalso; omega
    · exfalso; omega
    · have ne := nam_end a2
      rw [ne] at b2 b3 b4
      have hbn := hb_hn (rc := pool) T hst a2.2.2.1 ⟨by have := a2.1; omega, a2.2.1⟩ (m 1).toNat 0 (by omega)
      rw [← a3] at hbn
      refine ((pf_take (G := G) (l := l) 2 hR hc (s0 := s0) hsh a1 (i := s2) hN (by omega) hZ (by omega) hsr hs2)).mono (fun v h' w => ?_)
      have nz : ∀ v : Int, takenV m pool (m 1).toNat (p + 1) q s2 = v → ¬ v = 0 → m' = m := fun v e1 e2 => by rw [b4]; unfold takenM; rw [if_neg (by rw [e1]; exact e2)]
      rcases w with ⟨w1, rfl, rfl⟩ | ⟨w1, w2, rfl, rfl⟩ | ⟨w1, w2, w3, rfl, rfl⟩ | ⟨w1, w2, w3, rfl, w5, w6⟩
      · have no : ¬ openP m s2 := fun g => w1 ((hop s2).mpr g)
        have hv : takenV m pool (m 1).toNat (p + 1) q s2 = 101 := by unfold takenV; rw [if_neg no]
        rw [hv] at b3
        exact ⟨by rw [b3], Or.inl ⟨by rw [b3]; decide, nz _ hv (by decide), rfl⟩⟩
      · have yo : openP m s2 := (hop s2).mp w1
        have hv : takenV m pool (m 1).toNat (p + 1) q s2 = 102 := by unfold takenV; rw [if_pos yo, if_pos (by rw [hbn]; exact w2)]
        rw [hv] at b3
        exact ⟨by rw [b3], Or.inl ⟨by rw [b3]; decide, nz _ hv (by decide), rfl⟩⟩
      · have yo : openP m s2 := (hop s2).mp w1
        have hv : takenV m pool (m 1).toNat (p + 1) q s2 = 103 := by unfold takenV; rw [if_pos yo, if_neg (by rw [hbn]; omega), if_pos (by omega)]
        rw [hv] at b3
        exact ⟨by rw [b3], Or.inl ⟨by rw [b3]; decide, nz _ hv (by decide), rfl⟩⟩
      · have yo : openP m s2 := (hop s2).mp w1
        have hv : takenV m pool (m 1).toNat (p + 1) q s2 = 0 := by unfold takenV; rw [if_pos yo, if_neg (by rw [hbn]; omega), if_neg (by omega)]
        rw [hv] at b3
        unfold takenM at b4
        rw [if_pos hv] at b4
        have ln1 : 1 ≤ q - (p + 1) ∧ q - (p + 1) ≤ 7 := ⟨by have := a2.1; omega, by have := a2.2.1; omega⟩
        have ln2 : p + 1 ≤ q := by have := a2.1; omega
        refine ⟨by rw [b3], Or.inr ⟨b3, Or.inl ⟨_, _, _, _, w5, w6, ?_, ?_⟩⟩⟩
        · have ft : ∃ P E : Nat, ftF pool n q = ((P : Int), (E : Int)) ∧ tpO S pool inn P E := by
            rcases a4 with ⟨x1, x2, x3⟩ | ⟨x1, r', b', x2, x3, x4, x5, x6, x7⟩
            · exact ⟨q, q, by unfold ftF; rw [if_neg x2], Or.inl ⟨rfl, x3⟩⟩
            · exact ⟨q + 1, r', by rw [ftF_v x1 x2 x4 (b2 x1)]; rfl, Or.inr ⟨b', hi, k, x6, x2⟩⟩
          obtain ⟨P, E, ft1, ft2⟩ := ft
          rw [b4, ft1, a3]
          dsimp only
          exact CR_take hC hok (rc := pool) (N := (m 1).toNat) (Int.toNat_of_nonneg k1.1).symm w3 ln1 ln2 a2.2.2.1 hs2 ft2 hZ
        · refine ⟨fun u => updO_n (by omega), fun j hj => updO_n (by omega), fun j hj _ => ?_, ?_, ?_⟩
          · unfold adE adC; rw [updI_n (by omega), updI_n (by omega), updI_n (by omega), updI_n (by omega), updI_n (by omega)]
          · unfold adE adC; rw [updI_n (by omega), updI_n (by omega), updI_n (by omega), updI_n (by omega), updI_n (by omega)]
          · unfold adE adC; rw [updI_n (by omega), updI_n (by omega), updI_n (by omega), updI_n (by omega), updI_n (by omega)]
    all_goals (exfalso; omega)
  · rcases hP with ⟨x, -⟩ | ⟨x, -⟩ | ⟨x, -⟩ | ⟨-, b1⟩ | ⟨x, -⟩ | ⟨x, -⟩ | ⟨x, -⟩
    · exfalso; omega
    · exfalso; omega
    · exfalso; omega
    · have ne := nam_end a2
      rw [ne] at b1
      have hbn := hb_hn (rc := pool) T hst a2.2.2.1 ⟨by have := a2.1; omega, a2.2.1⟩ (m 1).toNat 0 (by omega)
      rw [← a3] at hbn
      refine ((pf_close (G := G) (l := l) 3 hR hc (s0 := s0) hsh a1 (i := s2) hN (by omega) hz0)).mono (fun v h' w => ?_)
      rcases w with ⟨w1, rfl, rfl⟩ | ⟨q, w1, w2, w3, w4, rfl, w6, w7⟩
      · rcases b1 with ⟨b1, rfl, rfl⟩ | ⟨b1, -⟩
        · exact ⟨rfl, Or.inl ⟨by decide, rfl, rfl⟩⟩
        · exfalso; omega
      · rcases b1 with ⟨b1, -⟩ | ⟨b1, rfl, b3⟩
        · exfalso; omega
        · rw [hbn, w2, Int.toNat_natCast] at b3
          obtain ⟨t1, -⟩ := T q (by omega)
          rw [t1, swT_0 (hst q (by omega))] at w3
          exact ⟨rfl, Or.inr ⟨rfl, Or.inr ⟨q, by omega, w3, b3, w6, w7⟩⟩⟩
    all_goals (exfalso; omega)
  · rcases hP with ⟨x, -⟩ | ⟨x, -⟩ | ⟨x, -⟩ | ⟨x, -⟩ | ⟨-, n, b1, b2, b3⟩ | ⟨x, -⟩ | ⟨x, -⟩
    · exfalso; omega
    · exfalso; omega
    · exfalso; omega
    · exfalso; omega
    · have ne := nam_end a2
      rw [ne] at b1 b2 b3
      have hv := num_v a4 he b1
      rw [hv, ← a6] at b3
      rw [hv, ← a6] at b2
      have hbn := hb_hn (rc := pool) T hst a2.2.2.1 ⟨by have := a2.1; omega, a2.2.1⟩ (m 1).toNat 0 (by omega)
      rw [← a5] at hbn
      refine ((pf_move (G := G) (l := l) 3 hR hc (s0 := s0) hsh a1 (i := s2) hN (by omega) hZ (by omega) (hCC 2) b2)).mono (fun v h' w => ?_)
      rcases w with ⟨w1, rfl, rfl⟩ | ⟨w1, w2, rfl, rfl⟩ | ⟨q', w1, w2, w3, w4, w5, rfl, w6, w7⟩
      · rcases b3 with ⟨b3, rfl, rfl⟩ | ⟨b3, -⟩ | ⟨b3, -⟩
        · exact ⟨rfl, Or.inl ⟨by decide, rfl, rfl⟩⟩
        · exfalso; omega
        · exfalso; omega
      · have no : ¬ openP m num := fun g => w2 ((hop num).mpr g)
        rcases b3 with ⟨b3, -⟩ | ⟨b3, b4, rfl, rfl⟩ | ⟨b3, b4, -⟩
        · exfalso; omega
        · exact ⟨rfl, Or.inl ⟨by decide, rfl, rfl⟩⟩
        · exact absurd b4 no
      · have yo : openP m num := (hop num).mp w5
        rcases b3 with ⟨b3, -⟩ | ⟨b3, b4, -⟩ | ⟨b3, b4, rfl, rfl⟩
        · exfalso; omega
        · exact absurd yo b4
        · obtain ⟨t1, -⟩ := T q' (by omega)
          rw [t1, swT_0 (hst q' (by omega))] at w3
          refine ⟨rfl, Or.inr ⟨rfl, Or.inl ⟨_, _, _, _, w6, w7, ?_, ?_⟩⟩⟩
          · rw [hbn, w2, Int.toNat_natCast]
            exact CR_move hC hok (by omega) w3 b2 hZ
          · refine ⟨fun u => rfl, fun j hj => rfl, fun j hj _ => ?_, ?_, ?_⟩
            · unfold mvC; rw [updI_n (by omega), updI_n (by omega), updI_n (by omega)]
            · unfold mvC; rw [updI_n (by omega), updI_n (by omega), updI_n (by omega)]
            · unfold mvC; rw [updI_n (by omega), updI_n (by omega), updI_n (by omega)]
    all_goals (exfalso; omega)
  · rcases hP with ⟨x, -⟩ | ⟨x, -⟩ | ⟨x, -⟩ | ⟨x, -⟩ | ⟨x, -⟩ | ⟨-, b1, rfl, rfl⟩ | ⟨x, -⟩
    · exfalso; omega
    · exfalso; omega
    · exfalso; omega
    · exfalso; omega
    · exfalso; omega
    · have hn : InR num := ⟨by omega, by omega⟩
      have rk := rk_iff (i := num) n0.2.2.1 k3.2 K (by omega)
      rw [← a4]
      refine ((pf_cancel (G := G) (l := l) 4 hR hc (s0 := s0) hsh a1 (i := s2) hn)).mono (fun v h' w => ?_)
      rcases w with ⟨w1, rfl, rfl⟩ | ⟨w1, rfl, w3, w4⟩
      · have no : ¬ (num ≤ m 3 - 1 ∧ m (1610 + 72 * num).toNat = 0) := fun g => w1 (rk.mpr g)
        rw [if_neg no, if_neg no]
        exact ⟨rfl, Or.inl ⟨by decide, rfl, rfl⟩⟩
      · have yo := rk.mp w1
        rw [if_pos yo, if_pos yo]
        refine ⟨rfl, Or.inr ⟨rfl, Or.inl ⟨_, _, _, _, w3, w4, ?_, ?_⟩⟩⟩
        · rw [show (1614 + 72 * num).toNat = 1614 + 72 * num.toNat by omega]
          exact (CR_tk hC hok (Int.le_refl _) (q0 := num.toNat) (by omega) (by decide)).2
        · exact ⟨fun u => rfl, fun j hj => rfl, fun j hj ht => updI_n (ht num.toNat), updI_n (by omega), updI_n (by omega)⟩
    · exfalso; omega
  · rcases hP with ⟨x, -⟩ | ⟨x, -⟩ | ⟨x, -⟩ | ⟨x, -⟩ | ⟨x, -⟩ | ⟨x, -⟩ | ⟨-, rfl, rfl⟩
    · exfalso; omega
    · exfalso; omega
    · exfalso; omega
    · exfalso; omega
    · exfalso; omega
    · exfalso; omega
    · refine ((pf_nop (G := G) (l := l) 6 hR hc (s0 := s0) hsh a1 (i := s2))).mono (fun v h' q => ?_)
      obtain ⟨rfl, rfl⟩ := q
      exact ⟨rfl, Or.inr ⟨rfl, Or.inl ⟨c, C, nm, g, hR, Same.refl, hC, KPs.rf⟩⟩⟩
end PFM
end mg_a1

section mg_a1
section PFM
variable {G : mG} {l : Launch} {r : Nat} {b z : Int} {f c : Nat → Int} {C : Nat → Nat → Int} {nm : Nat → Int64} {g : Nat → Option Nat} {h : mH} {pool m m' : Nat → Int} {S : Nat → Option mO} {B : Int} {cl : (Nat → Int) → Nat → (Nat → Int) → Prop}
theorem pfm_Q (hPo : poolOk pool) (hR : isR h r b z f c C nm g) (hS : ∀ a o, S a = some o → hGet h a = some o) (hSr : ∀ a, ¬ S a = none → ¬ rBlk r a) (hz0 : 0 ≤ z ∧ z < 160) (hC : CR m pool S c C nm g) (hI : Inv m pool B) (hSR : SR m) {k s hi p e : Nat} {nx : Option Nat} (hQ : stQ S pool (stL S pool k false 0) s nx hi p e) (he : ¬ dgP (pool e)) {s2 fl : Int} (hs2 : InR s2) (hP : doesR pool cl m p s2 fl m') :
    RUNM G l 6 mX3_perform [.ref r, .ref s, .int (J s2)] h (fun v h' => PFO pool S cl r b z f c C nm g h m m' fl v h') := by
  rcases hQ with hA | ⟨h0, h1, h2, h3, q, b', y, nx2, h4, h5, h6, h7, h8⟩
  · have n63 : ¬ pool p = 63 := fun g => by
      obtain ⟨-, num, vl, y, inn, -, hA⟩ := hA
      rcases hA with t | t | t | t | t | t | t
      all_goals (have := t.1; omega)
    have hP' : stpR pool cl m p s2 fl m' := by
      rcases hP with hP | hP
      · exact hP
      · exact absurd hP.1 n63
    obtain ⟨-, num, vl, y, inn, hs, -⟩ := id hA
    have := hPo p
    exact pf_plain 6 (hS s _ hs) n63 ⟨by omega, by omega⟩ (pfm_A hR hS hSr hz0 hC hI hSR hA he hs2 hP')
  · have hok := hI.1
    obtain ⟨n0, T, A, K, L, ⟨Z, e0⟩, ⟨F, f0⟩, Gg, hc, hCC⟩ := id hC
    obtain ⟨kk, hkk⟩ : ∃ kk : Nat, pool (p + 1) - 48 = kk := ⟨(pool (p + 1) - 48).toNat, by omega⟩
    rcases hP with hP | ⟨-, -, -, -, -, n, k', g1, g2, g3, g4, g5, hP⟩
    · exfalso
      obtain ⟨-, -, -, hP⟩ := hP
      rcases hP with t | t | t | t | t | t | t
      · have := t.1; omega
      · have := t.1; omega
      · have := t.1; omega
      · have := t.1; omega
      · have := t.1; omega
      · have := t.1; omega
      · exact t.1.2.2.1 h1
    · have hv := sgn_v h5 (by rw [h6]; decide) g1
      have lt5 := (sgnS_lt h5).1
      have nc : ∀ j, p + 3 ≤ j → j < q → ¬ pool j = 58 := fun j a b => by
        rcases h5 with ⟨v0, v1, v2, v3⟩ | ⟨v1, v2, v3⟩
        · by_cases w : j = p + 3
          · subst w; rw [v0]; decide
          · have := v3 j (by omega) b
            unfold dgP at this; omega
        · have := v3 j a b
          unfold dgP at this; omega
      have kq : k' = q := by
        by_cases w : k' < q
        · exact absurd g3 (nc k' g2.1 w)
        · by_cases w2 : q < k'
          · exact absurd h6 (g4 q (by omega) w2)
          · omega
      subst kq
      rw [hv] at hP g5
      have hsh := hS s _ h4
      rw [show (10 + pool (p + 1) - 48).toNat = 10 + kk by omega, ← L.1 kk (by omega)] at hP
      rcases hP with ⟨w1, w2⟩ | ⟨w1, rfl, rfl⟩
      · exact pf_ifY (G := G) (l := l) 4 hR hc hsh n0.2.2.2.1 (hCC 0) (k := kk) hkk (by omega) g5 w1 (pfm_A hR hS hSr hz0 hC hI hSR h8 he hs2 w2)
      · refine (pf_ifN (G := G) (l := l) 4 hR hc hsh n0.2.2.2.1 (hCC 0) (k := kk) hkk (by omega) g5 w1).mono (fun v h' q => ?_)
        obtain ⟨rfl, rfl⟩ := q
        exact ⟨rfl, Or.inr ⟨rfl, Or.inl ⟨c, C, nm, g, hR, Same.refl, hC, KPs.rf⟩⟩⟩
end PFM
end mg_a1

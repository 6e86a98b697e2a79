section mg_a6
section SH2
variable {G : mG} {l : Launch} {r : Nat} {b : Int} {pool : Nat → Int} {S : Nat → Option mO} {h0 : mH} {n : Nat}
theorem sim_shuts (hS : ∀ a o, S a = some o → hGet h0 a = some o) (hSr : ∀ a, ¬ S a = none → ¬ rBlk r a) (hb : -1 ≤ b ∧ b ≤ 9) (hPo : poolOk pool) {m m' : Nat → Int} {a : Nat} {B : Int} (hI : Inv m pool B) (hsc : ScI m) (hnc : NC m) (hc2 : ∀ c : Nat, a < c → (c : Int) < m 0 → ¬ m (18 + 4 * c) = 1) (hD : shB (clT G l r b pool S h0) (shS G l r b pool S h0 n) m (a : Int) m') : SIMS G l r b pool S h0 m (a : Int) m' := by
  intro a' ea ha ha0 k z f c C nm g h hR hf hSm hC hza hph
  have : a' = a := by omega
  subst this
  have hok := hI.1
  have k0 := hok.2.1
  have k1 := hok.2.2.1
  obtain ⟨-, -, ⟨x, -⟩ | ⟨-, kf, m2, hL, rfl⟩⟩ := hD
  · exact absurd (openP_nat.mpr ⟨ha, ha0⟩) x
  have e18 : (18 + 4 * (a' : Int)).toNat = 18 + 4 * a' := by omega
  rw [e18] at hL ⊢
  have um : ∀ q, ¬ q = 18 + 4 * a' → updI m (18 + 4 * a') 1 q = m q := fun q w => updI_n w
  have co := cnt_open (m := m) (s := a') (N := (m 0).toNat) (v := 1) (by omega)
  rw [if_pos ha0, if_neg (by decide)] at co
  have ph1 : psi k (updI m (18 + 4 * a') 1) = psi k m - 300 := by
    unfold psi
    rw [phi_sc (by omega), um 0 (by omega), um 2 (by omega), co]
    omega
  obtain ⟨go, li, ⟨B2, hI2⟩, sci2, m20, st2⟩ := sim_shloop (n := n) hS hSr hb hPo (z := z) hza kf (updI m (18 + 4 * a') 1) m2 B k f c C nm g h (hI.scope (by omega) (by decide)) (sci_b hsc k0.2 ha0) (fun t ht => by rw [um 1 (by omega)] at ht; rw [um _ (by omega)]; exact hnc t ht) (by rw [um 0 (by omega)]; exact ha) updI_s (fun w w1 w2 => by rw [um 0 (by omega)] at w2; rw [um _ (by omega)]; exact hc2 w w1 w2) hR hf hSm hC (by rw [ph1]; omega) hL
  rw [um 0 (by omega)] at m20
  have hok2 := hI2.1
  have k02 := hok2.2.1
  have k12 := hok2.2.2.1
  have k22 := hok2.2.2.2.1
  refine go.bind (fun k' h' q => ?_)
  obtain ⟨f', c', C', nm', g', q1, q2, q3, q4, q5, q6⟩ := q
  obtain ⟨n0, T, A, K, L, ⟨Z, e0⟩, ⟨F, f0⟩, Gg, hc, hCC⟩ := id q3
  have er := e0.2.1
  have lq := last_eq q3 hok2 (by omega) (fun t ht => (hI2.2.2.1 t ht).1) (fun u hu => (sci2.2.2 u hu).1) (stamp_nn hI2 sci2) (s := (a' : Int)) e0.1
  rw [if_pos li] at lq
  have cc2 := cnt_r (cngB m2) (m2 1).toNat
  have co2 := cnt_r (openB m2) (m2 0).toNat
  have hkb : k' < 1000000 := by unfold psi phi at q6; unfold psi phi at ph1 hph; omega
  have P := cr_shutNow (G := G) (l := l) 8 q1 hc (u := a') (by rw [n0.2.1, m20]; exact ha) (by omega) e0.1 (by omega) (hCC 2) ⟨by omega, by omega⟩ (by omega) lq
  refine (go_scope (k := k') q1 ⟨by omega, by omega⟩ hkb (by omega) (by rw [show ((z : Int) + 1).toNat - 1 = z by omega, q4 z (Nat.le_refl _)]; exact hf) P).mono (fun k'' h'' w => ?_)
  obtain ⟨rfl, w1, w2⟩ := w
  have y := CR_sce q3 hok2 (a := a') (by rw [m20]; exact ha) st2 e0.1
  have eqi : (if (a' : Int) = 0 then (0 : Int) else 2) = if a' = 0 then 0 else 2 := by
    by_cases w : a' = 0
    · subst w; rfl
    · rw [if_neg w, if_neg (by omega)]
  rw [eqi]
  have gs : ∀ q, ¬ q = 304 + 3 * a' → ¬ q = 10 → gsC c' a' (cnt (notB (100 + (a' : Int)) (C' 2)) Z) q = c' q := fun q u w => by unfold gsC; rw [updI_n w, updI_n u]
  refine ⟨f', _, _, nm', g', by rw [show (z : Int) + 1 - 1 = z by omega] at w1; exact w1, q2.trans w2, y, fun j hj => q4 j (by omega), ⟨q5.1, fun q hq hq2 => ?_, ?_, ?_⟩, ?_⟩
  · rw [gs q (by omega) (by omega)]; exact q5.2.1 q hq hq2
  · rw [gs 3 (by omega) (by omega)]; exact q5.2.2.1
  · rw [gs 4 (by omega) (by omega)]; exact q5.2.2.2
  · have co3 := cnt_open (m := m2) (s := a') (N := (m2 0).toNat) (v := if a' = 0 then 0 else 2) (by omega)
    rw [st2, show (if (1 : Int) = 0 then (1 : Int) else 0) = 0 from rfl] at co3
    have pe : psi (k' + 1) (updI m2 (18 + 4 * a') (if a' = 0 then 0 else 2)) = psi k' m2 + 1 + 300 * (if (if a' = 0 then (0 : Int) else 2) = 0 then 1 else 0) := by
      unfold psi
      rw [phi_sc (by omega), updI_n (show 0 ≠ 18 + 4 * a' by omega), updI_n (show 2 ≠ 18 + 4 * a' by omega), co3]
      unfold phi
      omega
    rw [pe]
    by_cases w : a' = 0
    · rw [if_pos w, if_pos w, if_pos rfl]; omega
    · rw [if_neg w, if_neg w, if_neg (by decide)]; omega
end SH2
end mg_a6

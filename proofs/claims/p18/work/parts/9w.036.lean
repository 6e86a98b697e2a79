section mg_a4
section SC2
variable {G : mG} {l : Launch} {r : Nat} {b : Int} {pool : Nat → Int} {S : Nat → Option mO} {h0 : mH} {n : Nat}
theorem sim_closes (hS : ∀ a o, S a = some o → hGet h0 a = some o) (hSr : ∀ a, ¬ S a = none → ¬ rBlk r a) (hb : -1 ≤ b ∧ b ≤ 9) (hPo : poolOk pool) {m m' : Nat → Int} {t : Nat} {B : Int} (hI : Inv m pool B) (ht : (t : Int) < m 1) (h0t : m (258 + 14 * t) = 0) (hEv : Ev m m') (hD : clI pool b (clS G l r b pool S h0 n) m t m') : SIMC G l r b pool S h0 m t m' := by
  intro hSR k z f c C nm g h hR hf hSm hC hgt hz hph
  obtain ⟨hok, -, ⟨x, -⟩ | ⟨-, p, E, kf, fl, m2, d1, d2, d3, d4, hL, ok2m, hfl, d5, d6, d7, rfl⟩⟩ := hD
  · exact absurd h0t x
  have k0 := hok.2.1
  have k1 := hok.2.2.1
  obtain ⟨i1, i2⟩ := inv_cng hI ht h0t
  have um : ∀ q, ¬ q = 258 + 14 * t → updI m (258 + 14 * t) 1 q = m q := fun q a => updI_n a
  have sr1 : SR (updI m (258 + 14 * t) 1) := fun a ha => by
    rw [um 0 (by omega)] at ha
    rw [um _ (by omega)]; exact hSR a ha
  obtain ⟨-, -, -, P, E', e1, e2, hx⟩ := hI.2.2.1 t ht
  have hx1 := hx.1
  have hx2 := hx.2.1
  have hP : P = p := by omega
  have hE : E' = E := by omega
  subst hP
  subst hE
  have rs : rsO S pool (g (2 * t + 1)) P E' := by
    obtain ⟨P2, E2, a1, a2, a3⟩ := hC.2.2.2.2.2.2.2.1 t (by rw [um 1 (by omega)]; exact ht)
    rw [um _ (by omega)] at a1 a2
    have : P2 = P := by omega
    subst this
    have : E2 = E' := by omega
    subst this
    rw [hgt]
    rcases a3 with ⟨a3, a4⟩ | ⟨s, hi, nn, a3, a4⟩
    · exact Or.inl ⟨by omega, a4⟩
    · exact Or.inr ⟨s, hi, nn, a3, a4⟩
  have ph1 : phi k (updI m (258 + 14 * t) 1) = phi k m - 150 := by
    unfold phi
    rw [um 1 (by omega), um 2 (by omega), i2]
    omega
  have ct := cnt_r (cngB (updI m (258 + 14 * t) 1)) (m 1).toNat
  obtain ⟨go, ev2, B2, hI2⟩ := sim_loop (n := n) hS hSr hb hPo kf (updI m (258 + 14 * t) 1) m2 B k P fl f c C nm g h i1 sr1 hR hf hSm hC (by rw [um 1 (by omega)]; exact ht) updI_s (by rw [um 1 (by omega), i2]; omega) (by rw [ph1]; omega) (by omega) rs hL
  have ht2 : (t : Int) < m2 1 := by have := ev2.2.1; rw [um 1 (by omega)] at this; omega
  have hc2 : m2 (258 + 14 * t) = 1 := (ev2.2.2.2.1 t (by rw [um 1 (by omega)]; exact ht)).2.2.1.mpr updI_s
  have lt2 := hI2.lt ht2 (by rw [hc2]; decide)
  have k12 := hI2.1.2.2.1
  have k22 := hI2.1.2.2.2.1
  refine go.bind (fun k' h' q => ?_)
  obtain ⟨f', c', C', nm', g', q1, q2, q3, q4, q5, q6, q7, q8, q9, q10, q11⟩ := q
  obtain ⟨M, hM⟩ : ∃ M, M = (if fl = 0 then m2 else gathersM m2 b fl t) := ⟨_, rfl⟩
  rw [← hM]
  have hCM : CRx 1 M pool S c' C' nm' g' ∧ g' (2 * t + 1) = none := by
    rw [hM]
    by_cases w : fl = 0
    · rw [if_pos w]; exact ⟨(q3 w).1.one, (q3 w).2⟩
    · rw [if_neg w]; exact q4 w
  have gM : (∀ q, InR (M q)) ∧ (∀ q, ¬ q = 4 → ¬ q = 5 → (q < 2328 ∨ 2928 ≤ q) → M q = m2 q) ∧ (M 4 = m2 4 ∨ M 4 = m2 4 + 1) ∧ (M 5 = m2 5 ∨ M 5 = m2 5 + 1) := by
    rw [hM]
    by_cases w : fl = 0
    · rw [if_pos w]; exact ⟨hI2.1.1, fun _ _ _ _ => rfl, Or.inl rfl, Or.inl rfl⟩
    · rw [if_neg w]; exact inv_gath hI2 (by omega) ⟨by omega, by omega⟩ hfl lt2.2.2.1 lt2.2.2.2
  obtain ⟨gM1, gM2, gM4, gM5⟩ := gM
  have mo : mOk M := by
    obtain ⟨a0, a1, a2, a3, a4, a5, a6, a7⟩ := hI2.1
    refine ⟨gM1, by rw [gM2 0 (by omega) (by omega) (by omega)]; exact a1, by rw [gM2 1 (by omega) (by omega) (by omega)]; exact a2, by rw [gM2 2 (by omega) (by omega) (by omega)]; exact a3, by rw [gM2 3 (by omega) (by omega) (by omega)]; exact a4, by omega, by omega, fun u hu => ?_⟩
    rw [gM2 1 (by omega) (by omega) (by omega)] at hu
    rw [gM2 _ (by omega) (by omega) (by omega)]; exact a7 u hu
  have M1 : M 1 = m2 1 := gM2 1 (by omega) (by omega) (by omega)
  have M2 : M 2 = m2 2 := gM2 2 (by omega) (by omega) (by omega)
  have Mt : M (258 + 14 * t) = 1 := by rw [gM2 _ (by omega) (by omega) (by omega)]; exact hc2
  obtain ⟨hCM, hgn⟩ := hCM
  obtain ⟨n0, T, A, K, L, ⟨Z, e0⟩, ⟨F, f0⟩, Gg, hc, hCC⟩ := id hCM
  obtain ⟨Lg, hLg⟩ : ∃ Lg : Nat, c' 9 = Lg := ⟨(c' 9).toNat, by rw [n0.2.2.2.2, M2]; omega⟩
  have er := e0.2.1
  have k0M := mo.2.1
  have k1M := mo.2.2.1
  have n9 := n0.2.2.2.2
  have cg2 := ev2.cng (by rw [um 1 (by omega)]; omega)
  rw [um 1 (by omega), i2] at cg2
  have cg' := hEv.cng k1.1
  have hkb : k' < 1000000 := by unfold phi at q11 hph; rw [cg2] at q11; unfold phi at ph1; omega
  have P1 := cr_closedNow (G := G) (l := l) 10 q1 hc (t := t) (by rw [n0.1, M1]; exact ht2) (by omega) hLg (by omega) e0.1 (by omega) (hCC 2) ⟨by omega, by omega⟩ (by omega) hgn
  refine (go_thing (k := k') q1 ⟨by omega, by omega⟩ hkb (by omega) (by rw [show ((z : Int) + 1).toNat - 1 = z by omega, q5 z (Nat.le_refl _)]; exact hf) P1).mono (fun k'' h'' w => ?_)
  obtain ⟨rfl, w1, w2⟩ := w
  have y := CR_closed hCM mo (by omega) (t := t) (by omega) Mt hLg e0.1
  obtain ⟨u2, ust, uo⟩ := closedM_at (m := M) (t := t) ⟨by omega, by omega⟩ (by omega)
  have gc : ∀ q, ¬ q = 32 + 3 * t → ¬ q = 34 + 3 * t → ¬ q = 9 → ¬ q = 10 → gcC c' t Lg (cnt (notB (t : Int) (C' 2)) Z) q = c' q := fun q a b d e => by
    unfold gcC
    rw [updI_n (by omega), updI_n (by omega), updI_n (by omega), updI_n (by omega)]
  refine ⟨f', _, _, nm', g', by rw [show (z : Int) + 1 - 1 = z by omega] at w1; exact w1, q2.trans w2, y, fun j hj => q5 j (by omega), ⟨fun u u1 u3 => ?_, q7, fun q hq hq2 => ?_, ?_, ?_⟩, ?_⟩
  · have ut : ¬ u = t := fun e => by rw [e, h0t] at u3; exact absurd u3 (by decide)
    exact q6 u (by rw [um 1 (by omega)]; exact u1) (by rw [um _ (by omega)]; exact u3) ut
  · rw [gc q (by omega) (by omega) (by omega) (by omega)]; exact q8 q hq hq2
  · rw [gc 3 (by omega) (by omega) (by omega) (by omega)]; exact q9
  · rw [gc 4 (by omega) (by omega) (by omega) (by omega)]; exact q10
  · have cg3 : cnt (cngB (closedM M t)) ((closedM M t) 1).toNat = cnt (cngB m) (m 1).toNat := by rw [hM]; exact cg'
    unfold phi
    rw [cg3, u2, M2]
    unfold phi at q11
    rw [cg2] at q11
    have p1 := ph1
    unfold phi at p1
    omega
end SC2
end mg_a4

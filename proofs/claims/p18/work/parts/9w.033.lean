section mg_a3
section SC
variable {G : mG} {l : Launch} {r : Nat} {b : Int} {pool : Nat → Int} {S : Nat → Option mO} {h0 : mH} {n : Nat}
theorem go_step (hS : ∀ a o, S a = some o → hGet h0 a = some o) (hSr : ∀ a, ¬ S a = none → ¬ rBlk r a) (hb : -1 ≤ b ∧ b ≤ 9) (hPo : poolOk pool) {m m1 : Nat → Int} {B : Int} {t z k : Nat} {f c : Nat → Int} {C : Nat → Nat → Int} {nm : Nat → Int64} {g : Nat → Option Nat} {h : mH} (hI : Inv m pool B) (hSR : SR m) (hR : isR h r b ((z : Int) + 1) f c C nm g) (hf : f z = t) (hSm : Same (rBlk r) h0 h) (hC : CR m pool S c C nm g) (ht : (t : Int) < m 1) (hcl : m (258 + 14 * t) = 1) (hz : (z : Int) + 1 ≤ 61 + cnt (cngB m) (m 1).toNat) (hph : phi k m + 1 ≤ 900000)
    {s hi p e kk : Nat} {nx : Option Nat} (hg : g (2 * t + 1) = some s) (hQ : stQ S pool (stL S pool kk false 0) s nx hi p e) (he : ¬ dgP (pool e)) {fl : Int} (hfl : InR fl) (hD : drI pool (clS G l r b pool S h0 n) m p (m (259 + 14 * t)) fl m1) :
    GOES G l r k h (STP r b pool S h0 m t z f c g fl m1 nx (phi k m + 1)) := by
  have hok := hI.1
  have k1 := hok.2.2.1
  have k2 := hok.2.2.2.1
  obtain ⟨hD, -, hEv⟩ := hD
  obtain ⟨n0, T, A, K, L, ⟨Z, e0⟩, ⟨F, f0⟩, Gg, hc, hCC⟩ := id hC
  have ct := cnt_r (cngB m) (m 1).toNat
  have lt := hI.lt ht (by rw [hcl]; decide)
  obtain ⟨t1, t2, -⟩ := T t ht
  have hkk : k < 1000000 := by unfold phi at hph; omega
  obtain ⟨kd, num, vl, y, inn, hs⟩ : ∃ kd num vl y inn, S s = some (stO kd num vl y inn nx) := by
    rcases hQ with ⟨-, num, vl, y, inn, hs, -⟩ | ⟨-, -, -, -, q, b', y, nx2, hs, -⟩
    · exact ⟨_, _, _, _, _, hs⟩
    · exact ⟨_, _, _, _, _, hs⟩
  have hsr := hSr s (by rw [hs]; exact fun q => by cases q)
  have hsh : hGet h s = some (stO kd num vl y inn nx) := (hSm.2.2.2 s hsr).trans (hS s _ hs)
  have ht90 : t < 90 := by omega
  have hct : (t : Int) < c 0 := by rw [n0.1]; exact ht
  have htop : f (((z : Int) + 1).toNat - 1) = (t : Int) := by rw [show ((z : Int) + 1).toNat - 1 = z by omega]; exact hf
  have hC1 : CR m pool S c C nm (updO g (2 * t + 1) nx) := hC.see hok (Int.le_refl _) (fun _ _ => rfl) (fun _ _ => rfl) hc (fun u _ => updO_n (by omega))
  have pf : ∀ h1, isR h1 r b ((z : Int) + 1) f c C nm (updO g (2 * t + 1) nx) → Same (rBlk r) h h1 → RUNM G l 6 mX3_perform [.ref r, .ref s, .int (J (c (33 + 3 * t)))] h1 (fun v h' => PFO pool S (clS G l r b pool S h0 n) r b ((z : Int) + 1) f c C nm (updO g (2 * t + 1) nx) h1 m m1 fl v h') := fun h1 hR1 hS1 => by
    refine pfm_Q hPo hR1 (fun a o ha => ((hSm.trans hS1).2.2.2 a (hSr a (by rw [ha]; exact fun q => by cases q))).trans (hS a o ha)) hSr ⟨by omega, by omega⟩ hC1 hI hSR hQ he (hc _) ?_
    rw [t2]; exact hD
  have og : ∀ u : Nat, ¬ u = t → updO g (2 * t + 1) nx (2 * u + 1) = g (2 * u + 1) := fun u hu => updO_n (by omega)
  by_cases w : fl = 0
  · subst w
    have P := cr_closeStepOk (G := G) (l := l) 5 hR hc hct ht90 hg hsh hsr (R := fun h' => ∃ h1, Same (rBlk r) h h1 ∧ Same (rBlk r) h1 h' ∧ ((∃ c' C' nm' g', isR h' r b ((z : Int) + 1) f c' C' nm' g' ∧ CR m1 pool S c' C' nm' g' ∧ KPs c c' (updO g (2 * t + 1) nx) g') ∨
      (∃ q : Nat, (q : Int) < m 1 ∧ m (258 + 14 * q) = 0 ∧ clS G l r b pool S h0 n m q m1 ∧ isR h' r b ((z : Int) + 1 + 1) (updI f ((z : Int) + 1).toNat (q : Int)) (updI c (32 + 3 * q) 2) C nm (btG (updO g (2 * t + 1) nx) q))))
      (fun h1 hR1 hS1 => (pf h1 hR1 hS1).mono (fun v h' q => by
        obtain ⟨q1, ⟨q2, -⟩ | ⟨-, ⟨c', C', nm', g', q2, q3, q4, q5⟩ | ⟨q, q2, q3, q4, q5, q6⟩⟩⟩ := q
        · exact absurd rfl q2
        · exact ⟨q1, h1, hS1, q3, Or.inl ⟨c', C', nm', g', q2, q4, q5⟩⟩
        · exact ⟨q1, h1, hS1, q6, Or.inr ⟨q, q2, q3, q4, q5⟩⟩))
    refine (go_thing (k := k) hR ⟨by omega, by omega⟩ hkk ht90 htop (P.deeper (by decide))).bind (fun k' h' q => ?_)
    obtain ⟨rfl, h1, s1, s2, q | ⟨q, q2, q3, q4, q5⟩⟩ := q
    · obtain ⟨c', C', nm', g', q1, q2, q3⟩ := q
      refine GOES.rf ⟨f, c', C', nm', g', q1, (hSm.trans s1).trans s2, fun _ => ⟨q2, ?_⟩, fun w => absurd rfl w, fun _ _ => rfl, fun u u1 u2 u3 => ?_, fun j hj => ?_, q3.2.2.1, q3.2.2.2.1, q3.2.2.2.2, ?_⟩
      · rw [q3.1, updO_s]
      · rw [q3.1]; exact og u u3
      · rw [q3.2.1 j hj]; exact updO_n (by omega)
      · have cg := hEv.cng k1.1
        have m2 := hEv.2.2.1.1
        unfold phi
        rw [cg]
        omega
    · obtain ⟨-, sm, -⟩ := q4
      have qt : ¬ q = t := fun e => by rw [e, hcl] at q3; exact absurd q3 (by decide)
      have e1 : ((z : Int) + 1).toNat = z + 1 := by omega
      rw [e1] at q5
      have y1 := CR_cng hC1 hok (Int.le_refl _) (t := q) q2 q3
      refine ((sm hSR (k + 1) (z + 1) _ _ _ _ _ h' (by rw [show ((z + 1 : Nat) : Int) = (z : Int) + 1 by omega]; exact q5) updI_s ((hSm.trans s1).trans s2) y1 (by unfold btG; rw [updO_s, updO_n (show 2 * q ≠ 2 * q + 1 by omega)]) (by omega) ?_)).mono (fun k' h'' q' => ?_)
      · unfold phi at hph ⊢; omega
      · obtain ⟨f', c', C', nm', g', w1, w2, w3, w4, w5, w6⟩ := q'
        obtain ⟨v1, v2, v3, v4, v5⟩ := w5
        have bg : ∀ j, ¬ j = 2 * q + 1 → btG (updO g (2 * t + 1) nx) q j = updO g (2 * t + 1) nx j := fun j hj => by unfold btG; exact updO_n hj
        have uc : ∀ j, ¬ j = 32 + 3 * q → updI c (32 + 3 * q) 2 j = c j := fun j hj => updI_n hj
        refine ⟨f', c', C', nm', g', by rw [show ((z + 1 : Nat) : Int) = (z : Int) + 1 by omega] at w1; exact w1, w2, fun _ => ⟨w3, ?_⟩, fun w => absurd rfl w, fun j hj => ?_, fun u u1 u2 u3 => ?_, fun j hj => ?_, fun j hj hj2 => ?_, ?_, ?_, ?_⟩
        · rw [v1 t ht hcl, bg _ (by omega), updO_s]
        · rw [w4 j (by omega)]; exact updI_n (by omega)
        · have uq : ¬ u = q := fun e => by rw [e, q3] at u2; exact absurd u2 (by decide)
          rw [v1 u u1 u2, bg _ (by omega)]; exact og u u3
        · rw [v2 j hj, bg _ (by omega)]; exact updO_n (by omega)
        · rw [v3 j hj hj2]; exact uc j (by omega)
        · rw [v4]; exact uc 3 (by omega)
        · rw [v5]; exact uc 4 (by omega)
        · unfold phi at w6 ⊢; omega
  · have fb := f0.2.1
    have P := cr_closeStepFault (G := G) (l := l) 5 hR hc hct ht90 hg hsh hsr f0.1.1 f0.1.2.1 f0.1.2.2 (by omega) hfl w
      (fun h1 hR1 hS1 => (pf h1 hR1 hS1).mono (fun v h' q => by
        obtain ⟨q1, ⟨-, -, q2⟩ | ⟨q2, -⟩⟩ := q
        · exact ⟨q1, q2⟩
        · exact absurd q2 w))
    have hm1 : m1 = m := pf_same w hD
    subst hm1
    refine (go_thing (k := k) hR ⟨by omega, by omega⟩ hkk ht90 htop (P.deeper (by decide))).mono (fun k' h' q => ?_)
    obtain ⟨rfl, q1, q2⟩ := q
    have y := CR_gath hC1 hok (by omega) (t := t) (by omega) hb hfl (F := F) f0.1.1
    have uo : ∀ j, ¬ j = 2 * t + 1 → updO (updO g (2 * t + 1) nx) (2 * t + 1) none j = g j := fun j hj => by rw [updO_n hj, updO_n hj]
    have uc : ∀ j, ¬ j = 11 → ¬ j = 12 → ¬ j = 13 → gaC c F j = c j := fun j a d e => by unfold gaC; rw [updI_n (by omega), updI_n (by omega), updI_n (by omega)]
    refine ⟨f, gaC c F, gaD C F fl (t : Int) b, nm, _, q1, hSm.trans q2, fun g0 => absurd g0 w, fun _ => ⟨?_, updO_s⟩, fun _ _ => rfl, fun u u1 u2 u3 => uo _ (by omega), fun j hj => uo _ (by omega), fun j hj hj2 => uc j (by omega) (by omega) (by omega), uc 3 (by omega) (by omega) (by omega), uc 4 (by omega) (by omega) (by omega), ?_⟩
    · obtain ⟨n0', T', A', K', L', E', ⟨F', f0'⟩, Gg', R'⟩ := y
      exact ⟨n0', T', A', K', L', E', ⟨F', f0'⟩, fun u hu => by
        obtain ⟨P', E'', a1, a2, a3⟩ := Gg' u hu
        refine ⟨P', E'', a1, a2, ?_⟩
        rw [updO_n (by omega)] at a3
        rw [uo _ (by omega)]
        exact a3, R'⟩
    · unfold phi; omega
end SC
end mg_a3

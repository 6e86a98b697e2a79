/-! ===== the rounds of the class's work, beside the reference's closings ===== -/
noncomputable def WHd (G : mG) (l : Launch) (r k : Nat) (h : mH) (Q : Option Value → mH → Prop) : Prop := ∀ o : Option Value, RUN G l 12 mX3_work 2 [some (.ref r), some (.int (J (k : Int))), o] [] h Q
/-- from here the work comes to where T holds -/
def GOES (G : mG) (l : Launch) (r k : Nat) (h : mH) (T : Nat → mH → Prop) : Prop := ∀ Q, (∀ k' h', T k' h' → WHd G l r k' h' Q) → WHd G l r k h Q
theorem GOES.rf {G : mG} {l : Launch} {r k : Nat} {h : mH} {T : Nat → mH → Prop} (t : T k h) : GOES G l r k h T := fun _ K => K k h t
theorem GOES.bind {G : mG} {l : Launch} {r k : Nat} {h : mH} {T T' : Nat → mH → Prop} (a : GOES G l r k h T) (f : ∀ k' h', T k' h' → GOES G l r k' h' T') : GOES G l r k h T' := fun Q K => a Q (fun k' h' t => f k' h' t Q K)
theorem GOES.mono {G : mG} {l : Launch} {r k : Nat} {h : mH} {T T' : Nat → mH → Prop} (a : GOES G l r k h T) (f : ∀ k' h', T k' h' → T' k' h') : GOES G l r k h T' := fun Q K => a Q (fun k' h' t => K k' h' (f k' h' t))
section GO
variable {G : mG} {l : Launch} {r : Nat} {b z : Int} {f c : Nat → Int} {C : Nat → Nat → Int} {nm : Nat → Int64} {g : Nat → Option Nat} {h : mH}
theorem go_thing (hR : isR h r b z f c C nm g) (hz : 0 < z ∧ z ≤ 160) {k : Nat} (hk : k < 1000000) {t : Nat} (ht : t < 90) (htop : f (z.toNat - 1) = (t : Int)) {R : mH → Prop} (P : RUNM G l 11 mX3_goOnClosing [.ref r, .int (J (t : Int))] h (fun v h' => v = none ∧ R h')) : GOES G l r k h (fun k' h' => k' = k + 1 ∧ R h') := fun _ K o =>
  wk_thing 10 hR hz hk ht htop P (fun h' o' hr => K (k + 1) h' ⟨rfl, hr⟩ o')
theorem go_scope (hR : isR h r b z f c C nm g) (hz : 0 < z ∧ z ≤ 160) {k : Nat} (hk : k < 1000000) {u : Nat} (hu : u < 60) (htop : f (z.toNat - 1) = 100 + (u : Int)) {R : mH → Prop} (P : RUNM G l 11 mX3_goOnShutting [.ref r, .int (J (u : Int))] h (fun v h' => v = none ∧ R h')) : GOES G l r k h (fun k' h' => k' = k + 1 ∧ R h') := fun _ K o =>
  wk_scope 10 hR hz hk hu htop P (fun h' o' hr => K (k + 1) h' ⟨rfl, hr⟩ o')
theorem go_task (hR : isR h r b z f c C nm g) (hz : 0 < z ∧ z ≤ 160) {k : Nat} (hk : k < 1000000) {q : Nat} (hq : q < 10) (htop : f (z.toNat - 1) = 200 + (q : Int)) {R : mH → Prop} (P : RUNM G l 11 mX3_goOnWithTask [.ref r, .int (J (q : Int))] h (fun v h' => v = none ∧ R h')) : GOES G l r k h (fun k' h' => k' = k + 1 ∧ R h') := fun _ K o =>
  wk_task 10 hR hz hk hq htop P (fun h' o' hr => K (k + 1) h' ⟨rfl, hr⟩ o')
end GO
/-- what closings leave alone: where the closers at work go on, the tasks -/
def KPt (m c c' : Nat → Int) (g g' : Nat → Option Nat) : Prop := (∀ u : Nat, (u : Int) < m 1 → m (258 + 14 * u) = 1 → g' (2 * u + 1) = g (2 * u + 1)) ∧ (∀ j, 180 ≤ j → g' j = g j) ∧ (∀ q, 488 ≤ q → (∀ t : Nat, q ≠ 496 + 9 * t) → c' q = c q) ∧ c' 3 = c 3 ∧ c' 4 = c 4
def phi (k : Nat) (m : Nat → Int) : Int := k + 200 * (90 - m 2) - 150 * cnt (cngB m) (m 1).toNat
/-- the closing of a thing, from the round at which it stands on top -/
def SIMC (G : mG) (l : Launch) (r : Nat) (b : Int) (pool : Nat → Int) (S : Nat → Option mO) (h0 : mH) (m : Nat → Int) (t : Nat) (m' : Nat → Int) : Prop :=
  SR m → ∀ (k z : Nat) (f c : Nat → Int) (C : Nat → Nat → Int) (nm : Nat → Int64) (g : Nat → Option Nat) (h : mH), isR h r b ((z : Int) + 1) f c C nm g → f z = t → Same (rBlk r) h0 h → CR (updI m (258 + 14 * t) 1) pool S c C nm g → g (2 * t + 1) = g (2 * t) → (z : Int) ≤ 61 + cnt (cngB m) (m 1).toNat → phi k m ≤ 900000 →
  GOES G l r k h (fun k' h' => ∃ f' c' C' nm' g', isR h' r b z f' c' C' nm' g' ∧ Same (rBlk r) h0 h' ∧ CR m' pool S c' C' nm' g' ∧ (∀ j, j < z → f' j = f j) ∧ KPt m c c' g g' ∧ phi k' m' ≤ phi k m)
def clS (G : mG) (l : Launch) (r : Nat) (b : Int) (pool : Nat → Int) (S : Nat → Option mO) (h0 : mH) (n : Nat) (m : Nat → Int) (t : Nat) (m' : Nat → Int) : Prop := closesR pool b n m t m' ∧ SIMC G l r b pool S h0 m t m' ∧ Ev m m'
/-- a step with a fault has changed nothing -/
theorem stp_same {pool : Nat → Int} {cl : (Nat → Int) → Nat → (Nat → Int) → Prop} {m m' : Nat → Int} {p : Nat} {s2 f : Int} (hf : ¬ f = 0) (k : stpR pool cl m p s2 f m') : m' = m := by
  obtain ⟨-, -, -, k⟩ := k
  rcases k with ⟨-, -, k, -⟩ | ⟨-, k, -⟩ | ⟨-, n, -, -, k1, k2⟩ | ⟨-, ⟨-, -, k⟩ | ⟨-, k, -⟩⟩ | ⟨-, n, -, -, ⟨-, -, k⟩ | ⟨-, -, -, k⟩ | ⟨-, -, k, -⟩⟩ | ⟨-, -, k1, k2⟩ | ⟨-, k, -⟩
  · exact absurd k hf
  · exact k
  · rw [k2]; unfold takenM; rw [if_neg (by rw [← k1]; exact hf)]
  · exact k
  · exact absurd k hf
  · exact k
  · exact k
  · exact absurd k hf
  · rw [k2]
    by_cases w : pool (p + 1) - 48 ≤ m 3 - 1 ∧ m (1610 + 72 * (pool (p + 1) - 48)).toNat = 0
    · rw [if_pos w] at k1; exact absurd k1 hf
    · rw [if_neg w]
  · exact absurd k hf
theorem pf_same {pool : Nat → Int} {cl : (Nat → Int) → Nat → (Nat → Int) → Prop} {m m' : Nat → Int} {p : Nat} {s2 f : Int} (hf : ¬ f = 0) (k : doesR pool cl m p s2 f m') : m' = m := by
  rcases k with k | ⟨-, -, -, -, -, n, j, -, -, -, -, -, ⟨-, k⟩ | ⟨-, k, -⟩⟩
  · exact stp_same hf k
  · exact stp_same hf k
  · exact absurd k hf
section SC
variable {G : mG} {l : Launch} {r : Nat} {b : Int} {pool : Nat → Int} {S : Nat → Option mO} {h0 : mH} {n : Nat}
theorem Ev.sr {m m' : Nat → Int} (h : Ev m m') (k : SR m) (h60 : m 0 ≤ 60) : SR m' := fun a ha => by
  rw [h.1 0 (Or.inl rfl)] at ha
  rw [h.1 (18 + 4 * a) (by unfold far; omega)]
  exact k a ha
/-- what has happened when a closer's step was done -/
def STP (r : Nat) (b : Int) (pool : Nat → Int) (S : Nat → Option mO) (h0 : mH) (m : Nat → Int) (t z : Nat) (f c : Nat → Int) (g : Nat → Option Nat) (fl : Int) (m1 : Nat → Int) (nx : Option Nat) (ph : Int) (k' : Nat) (h' : mH) : Prop :=
  ∃ f' c' C' nm' g', isR h' r b ((z : Int) + 1) f' c' C' nm' g' ∧ Same (rBlk r) h0 h' ∧ (fl = 0 → CR m1 pool S c' C' nm' g' ∧ g' (2 * t + 1) = nx) ∧ (¬ fl = 0 → CRx 1 (gathersM m1 b fl t) pool S c' C' nm' g' ∧ g' (2 * t + 1) = none) ∧ (∀ j, j ≤ z → f' j = f j) ∧
  (∀ u : Nat, (u : Int) < m 1 → m (258 + 14 * u) = 1 → ¬ u = t → g' (2 * u + 1) = g (2 * u + 1)) ∧ (∀ j, 180 ≤ j → g' j = g j) ∧ (∀ q, 488 ≤ q → (∀ t : Nat, q ≠ 496 + 9 * t) → c' q = c q) ∧ c' 3 = c 3 ∧ c' 4 = c 4 ∧ phi k' m1 ≤ ph
theorem go_step (hS : ∀ a o, S a = some o → hGet h0 a = some o) (hSr : ∀ a, ¬ S a = none → ¬ rBlk r a) (hb : -1 ≤ b ∧ b ≤ 9) (hPo : poolOk pool) {m m1 : Nat → Int} {B : Int} {t z k : Nat} {f c : Nat → Int} {C : Nat → Nat → Int} {nm : Nat → Int64} {g : Nat → Option Nat} {h : mH} (hI : Inv m pool B) (hSR : SR m) (hR : isR h r b ((z : Int) + 1) f c C nm g) (hf : f z = t) (hSm : Same (rBlk r) h0 h) (hC : CR m pool S c C nm g) (ht : (t : Int) < m 1) (hcl : m (258 + 14 * t) = 1) (hz : (z : Int) + 1 ≤ 61 + cnt (cngB m) (m 1).toNat) (hph : phi k m + 1 ≤ 900000)
    {s hi p e kk : Nat} {nx : Option Nat} (hg : g (2 * t + 1) = some s) (hQ : stQ S pool (stL S pool kk false 0) s nx hi p e) (he : ¬ dgP (pool e)) {fl : Int} (hfl : InR fl) (hD : drI pool (clS G l r b pool S h0 n) m p (m (259 + 14 * t)) fl m1) :
    GOES G l r k h (STP r b pool S h0 m t z f c g fl m1 nx (phi k m + 1)) := by
  have hok := hI.1
  have k1 := hok.2.2.1
  have k2 := hok.2.2.2.1
  obtain ⟨hD, -, hEv⟩ := hD
  obtain ⟨n0, T, A, K, L, ⟨Z, e0⟩, ⟨F, f0⟩, Gg, hc, hCC⟩ := id hC
  have ct := cnt_r (cngB m) (m 1).toNat
  have lt := hI.lt ht (by rw [hcl]; decide)
  obtain ⟨t1, t2, -⟩ := T t ht
  have hkk : k < 1000000 := by unfold phi at hph; omega
  obtain ⟨kd, num, vl, y, inn, hs⟩ : ∃ kd num vl y inn, S s = some (stO kd num vl y inn nx) := by
    rcases hQ with ⟨-, num, vl, y, inn, hs, -⟩ | ⟨-, -, -, -, q, b', y, nx2, hs, -⟩
    · exact ⟨_, _, _, _, _, hs⟩
    · exact ⟨_, _, _, _, _, hs⟩
  have hsr := hSr s (by rw [hs]; exact fun q => by cases q)
  have hsh : hGet h s = some (stO kd num vl y inn nx) := (hSm.2.2.2 s hsr).trans (hS s _ hs)
  have ht90 : t < 90 := by omega
  have hct : (t : Int) < c 0 := by rw [n0.1]; exact ht
  have htop : f (((z : Int) + 1).toNat - 1) = (t : Int) := by rw [show ((z : Int) + 1).toNat - 1 = z by omega]; exact hf
  have hC1 : CR m pool S c C nm (updO g (2 * t + 1) nx) := hC.see hok (Int.le_refl _) (fun _ _ => rfl) (fun _ _ => rfl) hc (fun u _ => updO_n (by omega))
  have pf : ∀ h1, isR h1 r b ((z : Int) + 1) f c C nm (updO g (2 * t + 1) nx) → Same (rBlk r) h h1 → RUNM G l 6 mX3_perform [.ref r, .ref s, .int (J (c (33 + 3 * t)))] h1 (fun v h' => PFO pool S (clS G l r b pool S h0 n) r b ((z : Int) + 1) f c C nm (updO g (2 * t + 1) nx) h1 m m1 fl v h') := fun h1 hR1 hS1 => by
    refine pfm_Q hPo hR1 (fun a o ha => ((hSm.trans hS1).2.2.2 a (hSr a (by rw [ha]; exact fun q => by cases q))).trans (hS a o ha)) hSr ⟨by omega, by omega⟩ hC1 hI hSR hQ he (hc _) ?_
    rw [t2]; exact hD
  have og : ∀ u : Nat, ¬ u = t → updO g (2 * t + 1) nx (2 * u + 1) = g (2 * u + 1) := fun u hu => updO_n (by omega)
  by_cases w : fl = 0
  · subst w
    have P := cr_closeStepOk (G := G) (l := l) 5 hR hc hct ht90 hg hsh hsr (R := fun h' => ∃ h1, Same (rBlk r) h h1 ∧ Same (rBlk r) h1 h' ∧ ((∃ c' C' nm' g', isR h' r b ((z : Int) + 1) f c' C' nm' g' ∧ CR m1 pool S c' C' nm' g' ∧ KPs c c' (updO g (2 * t + 1) nx) g') ∨
      (∃ q : Nat, (q : Int) < m 1 ∧ m (258 + 14 * q) = 0 ∧ clS G l r b pool S h0 n m q m1 ∧ isR h' r b ((z : Int) + 1 + 1) (updI f ((z : Int) + 1).toNat (q : Int)) (updI c (32 + 3 * q) 2) C nm (btG (updO g (2 * t + 1) nx) q))))
      (fun h1 hR1 hS1 => (pf h1 hR1 hS1).mono (fun v h' q => by
        obtain ⟨q1, ⟨q2, -⟩ | ⟨-, ⟨c', C', nm', g', q2, q3, q4, q5⟩ | ⟨q, q2, q3, q4, q5, q6⟩⟩⟩ := q
        · exact absurd rfl q2
        · exact ⟨q1, h1, hS1, q3, Or.inl ⟨c', C', nm', g', q2, q4, q5⟩⟩
        · exact ⟨q1, h1, hS1, q6, Or.inr ⟨q, q2, q3, q4, q5⟩⟩))
    refine (go_thing (k := k) hR ⟨by omega, by omega⟩ hkk ht90 htop (P.deeper (by decide))).bind (fun k' h' q => ?_)
    obtain ⟨rfl, h1, s1, s2, q | ⟨q, q2, q3, q4, q5⟩⟩ := q
    · obtain ⟨c', C', nm', g', q1, q2, q3⟩ := q
      refine GOES.rf ⟨f, c', C', nm', g', q1, (hSm.trans s1).trans s2, fun _ => ⟨q2, ?_⟩, fun w => absurd rfl w, fun _ _ => rfl, fun u u1 u2 u3 => ?_, fun j hj => ?_, q3.2.2.1, q3.2.2.2.1, q3.2.2.2.2, ?_⟩
      · rw [q3.1, updO_s]
      · rw [q3.1]; exact og u u3
      · rw [q3.2.1 j hj]; exact updO_n (by omega)
      · have cg := hEv.cng k1.1
        have m2 := hEv.2.2.1.1
        unfold phi
        rw [cg]
        omega
    · obtain ⟨-, sm, -⟩ := q4
      have qt : ¬ q = t := fun e => by rw [e, hcl] at q3; exact absurd q3 (by decide)
      have e1 : ((z : Int) + 1).toNat = z + 1 := by omega
      rw [e1] at q5
      have y1 := CR_cng hC1 hok (Int.le_refl _) (t := q) q2 q3
      refine ((sm hSR (k + 1) (z + 1) _ _ _ _ _ h' (by rw [show ((z + 1 : Nat) : Int) = (z : Int) + 1 by omega]; exact q5) updI_s ((hSm.trans s1).trans s2) y1 (by unfold btG; rw [updO_s, updO_n (show 2 * q ≠ 2 * q + 1 by omega)]) (by omega) ?_)).mono (fun k' h'' q' => ?_)
      · unfold phi at hph ⊢; omega
      · obtain ⟨f', c', C', nm', g', w1, w2, w3, w4, w5, w6⟩ := q'
        obtain ⟨v1, v2, v3, v4, v5⟩ := w5
        have bg : ∀ j, ¬ j = 2 * q + 1 → btG (updO g (2 * t + 1) nx) q j = updO g (2 * t + 1) nx j := fun j hj => by unfold btG; exact updO_n hj
        have uc : ∀ j, ¬ j = 32 + 3 * q → updI c (32 + 3 * q) 2 j = c j := fun j hj => updI_n hj
        refine ⟨f', c', C', nm', g', by rw [show ((z + 1 : Nat) : Int) = (z : Int) + 1 by omega] at w1; exact w1, w2, fun _ => ⟨w3, ?_⟩, fun w => absurd rfl w, fun j hj => ?_, fun u u1 u2 u3 => ?_, fun j hj => ?_, fun j hj hj2 => ?_, ?_, ?_, ?_⟩
        · rw [v1 t ht hcl, bg _ (by omega), updO_s]
        · rw [w4 j (by omega)]; exact updI_n (by omega)
        · have uq : ¬ u = q := fun e => by rw [e, q3] at u2; exact absurd u2 (by decide)
          rw [v1 u u1 u2, bg _ (by omega)]; exact og u u3
        · rw [v2 j hj, bg _ (by omega)]; exact updO_n (by omega)
        · rw [v3 j hj hj2]; exact uc j (by omega)
        · rw [v4]; exact uc 3 (by omega)
        · rw [v5]; exact uc 4 (by omega)
        · unfold phi at w6 ⊢; omega
  · have fb := f0.2.1
    have P := cr_closeStepFault (G := G) (l := l) 5 hR hc hct ht90 hg hsh hsr f0.1.1 f0.1.2.1 f0.1.2.2 (by omega) hfl w
      (fun h1 hR1 hS1 => (pf h1 hR1 hS1).mono (fun v h' q => by
        obtain ⟨q1, ⟨-, -, q2⟩ | ⟨q2, -⟩⟩ := q
        · exact ⟨q1, q2⟩
        · exact absurd q2 w))
    have hm1 : m1 = m := pf_same w hD
    subst hm1
    refine (go_thing (k := k) hR ⟨by omega, by omega⟩ hkk ht90 htop (P.deeper (by decide))).mono (fun k' h' q => ?_)
    obtain ⟨rfl, q1, q2⟩ := q
    have y := CR_gath hC1 hok (by omega) (t := t) (by omega) hb hfl (F := F) f0.1.1
    have uo : ∀ j, ¬ j = 2 * t + 1 → updO (updO g (2 * t + 1) nx) (2 * t + 1) none j = g j := fun j hj => by rw [updO_n hj, updO_n hj]
    have uc : ∀ j, ¬ j = 11 → ¬ j = 12 → ¬ j = 13 → gaC c F j = c j := fun j a d e => by unfold gaC; rw [updI_n (by omega), updI_n (by omega), updI_n (by omega)]
    refine ⟨f, gaC c F, gaD C F fl (t : Int) b, nm, _, q1, hSm.trans q2, fun g0 => absurd g0 w, fun _ => ⟨?_, updO_s⟩, fun _ _ => rfl, fun u u1 u2 u3 => uo _ (by omega), fun j hj => uo _ (by omega), fun j hj hj2 => uc j (by omega) (by omega) (by omega), uc 3 (by omega) (by omega) (by omega), uc 4 (by omega) (by omega) (by omega), ?_⟩
    · obtain ⟨n0', T', A', K', L', E', ⟨F', f0'⟩, Gg', R'⟩ := y
      exact ⟨n0', T', A', K', L', E', ⟨F', f0'⟩, fun u hu => by
        obtain ⟨P', E'', a1, a2, a3⟩ := Gg' u hu
        refine ⟨P', E'', a1, a2, ?_⟩
        rw [updO_n (by omega)] at a3
        rw [uo _ (by omega)]
        exact a3, R'⟩
    · unfold phi; omega
theorem loop_inv {t E : Nat} {cl : (Nat → Int) → Nat → (Nat → Int) → Prop} : ∀ (kf : Nat) (m m2 : Nat → Int) (B : Int) (p : Nat) (fl : Int), Inv m pool B → loopR pool (drI pool cl) t E kf m p fl m2 → Ev m m2 ∧ ∃ B, Inv m2 pool B
  | 0, m, m2, B, p, fl, hI, hL => by
    rw [hL.2.2]; exact ⟨Ev.rf, B, hI⟩
  | kf + 1, m, m2, B, p, fl, hI, hL => by
    rcases hL with ⟨a1, a2, a3⟩ | ⟨a1, f1, m1, ⟨-, ⟨B1, a2⟩, a5⟩, a3, a4⟩
    · rw [a3]; exact ⟨Ev.rf, B, hI⟩
    · rcases a4 with ⟨-, -, a4⟩ | ⟨-, a4⟩
      · rw [a4]; exact ⟨a5, B1, a2⟩
      · obtain ⟨x, y⟩ := loop_inv kf m1 m2 B1 _ fl a2 a4
        exact ⟨a5.tr x, y⟩
/-- where a closer goes on: nowhere, or at a step -/
def rsO (S : Nat → Option mO) (pool : Nat → Int) (r : Option Nat) (p E : Nat) : Prop := (E ≤ p ∧ r = none) ∨ (∃ s hi n, r = some s ∧ stL S pool n false 0 s hi p E)
theorem sim_loop (hS : ∀ a o, S a = some o → hGet h0 a = some o) (hSr : ∀ a, ¬ S a = none → ¬ rBlk r a) (hb : -1 ≤ b ∧ b ≤ 9) (hPo : poolOk pool) {t z E : Nat} : ∀ (kf : Nat) (m m2 : Nat → Int) (B : Int) (k p : Nat) (fl : Int) (f c : Nat → Int) (C : Nat → Nat → Int) (nm : Nat → Int64) (g : Nat → Option Nat) (h : mH), Inv m pool B → SR m → isR h r b ((z : Int) + 1) f c C nm g → f z = t → Same (rBlk r) h0 h → CR m pool S c C nm g → (t : Int) < m 1 → m (258 + 14 * t) = 1 → (z : Int) + 1 ≤ 61 + cnt (cngB m) (m 1).toNat → phi k m + ((E + 1 : Nat) : Int) - p ≤ 900000 → p ≤ E + 1 → rsO S pool (g (2 * t + 1)) p E →
    loopR pool (drI pool (clS G l r b pool S h0 n)) t E kf m p fl m2 → GOES G l r k h (STP r b pool S h0 m t z f c g fl m2 none (phi k m + ((E + 1 : Nat) : Int) - p)) ∧ Ev m m2 ∧ ∃ B, Inv m2 pool B
  | kf, m, m2, B, k, p, fl, f, c, C, nm, g, h, hI, hSR, hR, hf, hSm, hC, ht, hcl, hz, hph, hpE, hp, hL => by
    have stop : E ≤ p → fl = 0 → m2 = m → GOES G l r k h (STP r b pool S h0 m t z f c g fl m2 none (phi k m + ((E + 1 : Nat) : Int) - p)) ∧ Ev m m2 ∧ ∃ B, Inv m2 pool B := fun a1 a2 a3 => by
      subst a3
      subst a2
      rcases hp with ⟨-, b2⟩ | ⟨s, hi, nn, -, b3⟩
      · exact ⟨GOES.rf ⟨f, c, C, nm, g, hR, hSm, fun _ => ⟨hC, b2⟩, fun w => absurd rfl w, fun _ _ => rfl, fun _ _ _ _ => rfl, fun _ _ => rfl, fun _ _ _ => rfl, rfl, rfl, by omega⟩, Ev.rf, B, hI⟩
      · have := stL_lt b3; omega
    cases kf with
    | zero => exact stop hL.1 hL.2.1 hL.2.2
    | succ kf =>
      rcases hL with ⟨a1, a2, a3⟩ | ⟨a1, f1, m1, a2, a3, a4⟩
      · exact stop a1 a2 a3
      · rcases hp with ⟨b1, -⟩ | ⟨s, hi, nn, b2, b3⟩
        · omega
        · cases nn with
          | zero => exact b3.elim
          | succ nn =>
            obtain ⟨nx, mid, e, o', c1, c2, c3, c4⟩ := b3
            have hQ : stQ S pool (stL S pool nn false 0) s nx mid p e := by
              rcases c1 with ⟨c1, -⟩ | ⟨c1, -⟩ | ⟨c1, -⟩
              · exact c1
              · cases c1
              · cases c1
            have lt := stepQ_lt (stQ_t (fun b q r g => stL_tC nn 0 b mid q r g) hQ)
            have heE : e ≤ E := by rcases c4 with c4 | ⟨c4, -⟩ <;> omega
            have hbe := (stepQ_skip (fun a b => stsC_skip nn a b) (stQ_t (fun b q r g => stL_tC nn 0 b mid q r g) hQ)).beh (E := E) heE (by rcases c4 with c4 | ⟨_, c4, _⟩; exact Or.inl c4.1; exact Or.inr c4)
            have step := go_step (n := n) hS hSr hb hPo hI hSR hR hf hSm hC ht hcl hz (k := k) (by omega) b2 hQ (endC_nd c3) a3 a2
            obtain ⟨-, ⟨B1, hI1⟩, hE1⟩ := a2
            have k0 := hI.1.2.1
            have k1 := hI.1.2.2.1
            rcases a4 with ⟨a4, rfl, rfl⟩ | ⟨rfl, a5⟩
            · refine ⟨step.mono (fun k' h' q => ?_), hE1, B1, hI1⟩
              obtain ⟨f', c', C', nm', g', q1, q2, q3, q4, q5, q6, q7, q8, q9, q10, q11⟩ := q
              exact ⟨f', c', C', nm', g', q1, q2, fun w => absurd w a4, q4, q5, q6, q7, q8, q9, q10, by omega⟩
            · rw [hbe] at a5
              have ht1 : (t : Int) < m1 1 := by have := hE1.2.1; omega
              have hcl1 : m1 (258 + 14 * t) = 1 := (hE1.2.2.2.1 t ht).2.2.1.mpr hcl
              have hcg := hE1.cng k1.1
              have sr1 := hE1.sr hSR k0.2
              have rest : ∀ (k' : Nat) (h' : mH) (f' c' : Nat → Int) (C' : Nat → Nat → Int) (nm' : Nat → Int64) (g' : Nat → Option Nat), isR h' r b ((z : Int) + 1) f' c' C' nm' g' → f' z = t → Same (rBlk r) h0 h' → CR m1 pool S c' C' nm' g' → g' (2 * t + 1) = nx → phi k' m1 ≤ phi k m + 1 → GOES G l r k' h' (STP r b pool S h0 m1 t z f' c' g' fl m2 none (phi k' m1 + ((E + 1 : Nat) : Int) - ((e + 1 : Nat) : Int))) ∧ Ev m1 m2 ∧ ∃ B, Inv m2 pool B := fun k' h' f' c' C' nm' g' q1 q2 q3 q4 q5 q6 => by
                refine sim_loop hS hSr hb hPo kf m1 m2 B1 k' (e + 1) fl f' c' C' nm' g' h' hI1 sr1 q1 q2 q3 q4 ht1 hcl1 (by rw [hcg]; exact hz) (by omega) (by omega) ?_ a5
                rcases c4 with ⟨c4, c5⟩ | ⟨c4, c5, b', c6, c7, c8⟩
                · exact Or.inl ⟨by omega, by rw [q5]; exact c5⟩
                · exact Or.inr ⟨b', hi, nn, by rw [q5]; exact c6, stL_o nn o' _ _ _ _ c8⟩
              have ev2 : Ev m1 m2 ∧ ∃ B, Inv m2 pool B := loop_inv kf m1 m2 B1 (e + 1) fl hI1 a5
              refine ⟨step.bind (fun k' h' q => ?_), hE1.tr ev2.1, ev2.2⟩
              obtain ⟨f', c', C', nm', g', q1, q2, q3, q4, q5, q6, q7, q8, q9, q10, q11⟩ := q
              obtain ⟨q3, qn⟩ := q3 rfl
              refine (rest k' h' f' c' C' nm' g' q1 (by rw [q5 z (Nat.le_refl _)]; exact hf) q2 q3 qn q11).1.mono (fun k'' h'' w => ?_)
              obtain ⟨f'', c'', C'', nm'', g'', w1, w2, w3, w4, w5, w6, w7, w8, w9, w10, w11⟩ := w
              refine ⟨f'', c'', C'', nm'', g'', w1, w2, w3, w4, fun j hj => (w5 j hj).trans (q5 j hj), fun u u1 u2 u3 => (w6 u (by have := hE1.2.1; omega) ((hE1.2.2.2.1 u u1).2.2.1.mpr u2) u3).trans (q6 u u1 u2 u3), fun j hj => (w7 j hj).trans (q7 j hj), fun j hj hj2 => (w8 j hj hj2).trans (q8 j hj hj2), w9.trans q9, w10.trans q10, by omega⟩
end SC

section mg_a9
section TS2
variable {G : mG} {l : Launch} {r : Nat} {pool : Nat → Int} {S : Nat → Option mO} {h0 : mH}
theorem go_tstep (hS : ∀ a o, S a = some o → hGet h0 a = some o) (hSr : ∀ a, ¬ S a = none → ¬ rBlk r a) (hPo : poolOk pool) {m m1 : Nat → Int} {B : Int} {q k o : Nat} {f c : Nat → Int} {C : Nat → Nat → Int} {nm : Nat → Int64} {g : Nat → Option Nat} {h : mH} (hM : Mid m pool B) (hT : TkM m pool q) (hq : (q : Int) < m 3) (hrd : m (1610 + 72 * q) = 0)
    (hR : isR h r (q : Int) 1 f c C nm g) (hf : f 0 = 200 + (q : Int)) (hSm : Same (rBlk r) h0 h) (hC : CR m pool S c C nm g) (h488 : c (488 + 9 * q) = m (1615 + 72 * q)) (h493 : c (493 + 9 * q) = m (1608 + 72 * q)) (h494 : c (494 + 9 * q) = m (1620 + 72 * q + o)) (hn : m (1619 + 72 * q) = (o : Int) + 1) (hph : psi k m + 400 ≤ 900000)
    {s hi p e kk o' : Nat} {nx : Option Nat} (hg : g (181 + 2 * q) = some s) (hK : stK S pool (stL S pool kk false 0) true o s nx hi p e o') (he : ¬ dgP (pool e)) (hD : diI pool (clT G l r (q : Int) pool S h0) (shS G l r (q : Int) pool S h0 61) m q p 0 m1) (z1 : Nat) (hz1 : z1 = if pool p = 46 ∧ ¬ nx = none then 0 else 1) :
    GOES G l r k h (TSP r pool S h0 q z1 o' f c g m1 nx (psi k m + 301)) := by
  obtain ⟨hI, hsc, hnc, hns⟩ := id hM
  have hok := hI.1
  have k0 := hok.2.1
  have k1 := hok.2.2.1
  have k2 := hok.2.2.2.1
  have k3 := hok.2.2.2.2.1
  obtain ⟨n0, T, A, K, L, ⟨Z, e0⟩, F0, Gg, hc, hCC⟩ := id hC
  obtain ⟨hDo, ⟨B1, hM1⟩, hT1, hkt⟩ := hD
  have hok1 := hM1.1.1
  obtain ⟨a1, a2, a3, a4, a5, a6, ⟨n, a7, a8⟩, a9, a10⟩ := id (hT.2 q hq).1
  obtain rfl : n = o + 1 := by omega
  have top := a8.2.1 o (by omega)
  have co := cnt_r (openB m) (m 0).toNat
  have cc := hnc.cnt k1.1
  have hkk : k < 1000000 := by unfold psi phi at hph; omega
  have hq10 : q < 10 := by omega
  have hqc : (q : Int) < c 2 := by rw [n0.2.2.1]; exact hq
  have hst : c (489 + 9 * q) = 0 := by rw [(K q hq).1]; exact hrd
  have hSR : SR m := fun a ha => (hsc.2.2 a ha).1
  have hSg : ∀ a o, S a = some o → hGet h a = some o := fun a o ha => (hSm.2.2.2 a (hSr a (by rw [ha]; exact fun q => by cases q))).trans (hS a o ha)
  have hob : ∀ {a kd num vl : _} {y : Int64} {inn nx : Option Nat}, S a = some (stO kd num vl y inn nx) → ¬ rBlk r a := fun ha => hSr _ (by rw [ha]; exact fun q => by cases q)
  -- the world with the step counted
  have cnted : ∀ {m2 : Nat → Int} {c2 : Nat → Int} {C2 : Nat → Nat → Int} {nm2 : Nat → Int64} {g2 : Nat → Option Nat}, mOk m2 → CR m2 pool S c2 C2 nm2 g2 → c2 (488 + 9 * q) = c (488 + 9 * q) → CR m2 pool S (updI c2 (488 + 9 * q) (c2 (488 + 9 * q) + 1)) C2 nm2 (updO g2 (181 + 2 * q) nx) := fun {m2 c2 C2 nm2 g2} x y z => by
    refine y.see x (Int.le_refl _) (fun _ _ => rfl) (fun j hj => updI_n (fun w => ?_)) (fun j => ?_) (fun u _ => updO_n (by omega))
    · subst w
      rcases hj with w | w | w | w | w | ⟨t, w | w⟩ <;> omega
    · obtain ⟨-, -, -, -, -, -, -, -, R⟩ := y
      by_cases w : j = 488 + 9 * q
      · subst w; rw [updI_s, z, h488]; exact ⟨by omega, by omega⟩
      · rw [updI_n w]; exact R.1 j
  have E := hDo
  obtain ⟨-, -, -, n, n60, nn, E⟩ := E
  obtain rfl : n = o + 1 := by omega
  have etop : m (1619 + 72 * q + (o + 1)) = m (1620 + 72 * q + o) := by congr 1; omega
  rw [etop] at E
  rcases hK with ⟨hQ, rfl⟩ | ⟨-, -, hp, -, rfl, num, vl, y, inn, hs⟩ | ⟨-, -, hp, -, ho, num, vl, y, inn, hs⟩
  · -- a step as in a closer
    have hpk : ¬ pool p = 40 ∧ ¬ pool p = 41 := by
      rcases hQ with ⟨-, num, vl, y, inn, -, w⟩ | ⟨-, w, -⟩
      · rcases w with w | w | w | w | w | w | w
        all_goals (have := w.1; constructor <;> omega)
      · constructor <;> omega
    rcases E with ⟨x, -⟩ | ⟨x, -⟩ | ⟨-, -, E⟩
    · exact absurd x hpk.1
    · exact absurd x hpk.2
    have fw : few m m1 := does_few hok (fun t m' x => by
      obtain ⟨⟨-, -, ev⟩, -, x2⟩ := x
      exact ⟨ev.1 0 (Or.inl rfl), by omega, fun c hc => ev.1 _ (by unfold far; omega), fun k a b d => ev.1 k (fat_far (Or.inr (Or.inr (Or.inr (Or.inr (Or.inr ⟨a, b, d⟩))))))⟩) E
    have pf := psi_few (k := k) fw hnc hM1.2.2.1 hok hok1
    have p1 : psi (k + 1) m1 = psi k m1 + 1 := by unfold psi phi; omega
    have keep : m1 (1620 + 72 * q + o') = m (1620 + 72 * q + o') := fw.2.2.2 _ (by omega) (by omega) (fun t w => by omega)
    obtain ⟨kd, num, vl, y, inn, hs, hkr, hk46⟩ : ∃ kd num vl y inn, S s = some (stO kd num vl y inn nx) ∧ InR kd ∧ (kd = 46 ↔ pool p = 46) := by
      rcases hQ with ⟨-, num, vl, y, inn, hs, -⟩ | ⟨-, w, -, -, q, b', y, nx2, hs, -⟩
      · exact ⟨_, _, _, _, _, hs, ⟨by have := hPo p; omega, by have := hPo p; omega⟩, Iff.rfl⟩
      · exact ⟨_, _, _, _, _, hs, ⟨by decide, by decide⟩, by rw [w]⟩
    have hsh := hSg s _ hs
    have hsr := hob hs
    by_cases dot : pool p = 46
    · -- a turn's end
      have kd46 := hk46.mpr dot
      have em : m1 = m := by
        rcases E with E | ⟨w, -⟩
        · obtain ⟨-, -, -, ⟨w, -⟩ | ⟨w, -⟩ | ⟨w, -⟩ | ⟨w, -⟩ | ⟨w, -⟩ | ⟨w, -⟩ | ⟨-, -, w⟩⟩ := E
          all_goals first | exact w | (exfalso; omega)
        · omega
      have P : RUNM G l 6 mX3_perform [.ref r, .ref s, .int (J (c (494 + 9 * q)))] h (fun v h' => v = some (.int (J 0)) ∧ isR h' r (q : Int) 1 f c C nm g ∧ Same (rBlk r) h h') := pf_plain (G := G) (l := l) 6 hsh (by omega) hkr ((pf_nop (G := G) (l := l) 6 hR hc hsh kd46).mono (fun v h' w => by
        obtain ⟨w1, rfl⟩ := w
        exact ⟨w1, hR, Same.refl⟩))
      cases nx with
      | none =>
        rw [if_neg (fun w => w.2 rfl)] at hz1
        subst hz1
        refine (go_task (k := k) hR ⟨by omega, by omega⟩ hkk hq10 hf ((cr_taskLast (G := G) (l := l) 5 hR hc hqc hq10 hst hg hsh hsr kd46 hc ⟨by omega, by omega⟩ (by decide) P).deeper (by decide))).mono (fun k' h' w => ?_)
        obtain ⟨rfl, w1, w2⟩ := w
        refine ⟨f, _, C, nm, _, w1, hSm.trans w2, ?_, fun _ => rfl, fun _ _ => rfl, fun _ _ _ _ => rfl, updI_n (by omega), updI_n (by omega), ?_, by omega⟩
        · rw [em]; exact cnted hok hC rfl
        · rw [updI_n (by omega), keep]; exact h494
      | some s2 =>
        rw [if_pos ⟨dot, fun w => by cases w⟩] at hz1
        subst hz1
        refine (go_task (k := k) hR ⟨by omega, by omega⟩ hkk hq10 hf ((cr_taskDot (G := G) (l := l) 5 hR hc hqc hq10 hst hg hsh hsr kd46 hc ⟨by omega, by omega⟩ (by decide) P).deeper (by decide))).mono (fun k' h' w => ?_)
        obtain ⟨rfl, w1, w2⟩ := w
        refine ⟨f, _, C, nm, _, w1, hSm.trans w2, ?_, fun _ => rfl, fun _ _ => rfl, fun _ _ _ _ => rfl, updI_n (by omega), updI_n (by omega), ?_, by omega⟩
        · rw [em]; exact cnted hok hC rfl
        · rw [updI_n (by omega), keep]; exact h494
    · rw [if_neg (fun w => dot w.1)] at hz1
      subst hz1
      have kd46 : ¬ kd = 46 := fun w => dot (hk46.mp w)
      have Pq := pfm_Q (G := G) (l := l) hPo hR hSg hSr ⟨by decide, by decide⟩ hC hI hSR hQ he (hc (494 + 9 * q)) (by rw [h494]; exact E)
      obtain ⟨v, h1, ⟨rfl, ⟨w, -⟩ | ⟨-, ⟨c', C', nm', g', q1, q2, q3, q4⟩ | ⟨t, q1, q2, q3, q4, q5⟩⟩⟩, Pe⟩ := Pq.ex
      · exact absurd rfl w
      · obtain ⟨-, v2, v3, v4, v5⟩ := q4
        obtain ⟨-, -, -, -, -, -, -, -, R'⟩ := id q3
        refine (go_tone hR hc hf hkk hqc hq10 hst hg hsh hsr hkr kd46 R'.1 (z' := 1) ⟨by decide, by decide⟩ (by decide) (Pe.mono (fun v h' w => by
          obtain ⟨rfl, rfl⟩ := w
          exact ⟨rfl, q1, q2⟩))).mono (fun k' h' w => ?_)
        obtain ⟨rfl, w1, w2⟩ := w
        have e488 := v3 (488 + 9 * q) (by omega) (fun t w => by omega)
        refine ⟨f, _, C', nm', _, w1, hSm.trans w2, cnted hok1 q3 e488, fun _ => rfl, fun j hj => ?_, fun j hj hj2 hj3 => ?_, ?_, ?_, ?_, by omega⟩
        · by_cases w : j = 181 + 2 * q
          · subst w; rw [updO_s, updO_s]
          · rw [updO_n w, updO_n w]; exact v2 j hj
        · by_cases w : j = 488 + 9 * q
          · subst w; rw [updI_s, updI_s, e488]
          · rw [updI_n w, updI_n w]; exact v3 j hj hj2
        · rw [updI_n (by omega)]; exact v4
        · rw [updI_n (by omega)]; exact v5
        · rw [updI_n (by omega), v3 _ (by omega) (fun t w => by omega), keep]; exact h494
      · -- another thing is closed
        have y1 := CR_cng hC hok (Int.le_refl _) (t := t) q1 q2
        obtain ⟨-, -, -, -, -, -, -, -, R'⟩ := id y1
        have uc : ∀ j, ¬ j = 32 + 3 * t → updI c (32 + 3 * t) 2 j = c j := fun j hj => updI_n hj
        have bg : ∀ j, ¬ j = 2 * t + 1 → btG g t j = g j := fun j hj => by unfold btG; exact updO_n hj
        refine (go_tone hR hc hf hkk hqc hq10 hst hg hsh hsr hkr kd46 R'.1 (z' := 1 + 1) ⟨by decide, by decide⟩ (by decide) (Pe.mono (fun v h' w => by
          obtain ⟨rfl, rfl⟩ := w
          exact ⟨rfl, q4, q5⟩))).bind (fun k' h' w => ?_)
        obtain ⟨rfl, w1, w2⟩ := w
        have it := inv_cng hI q1 q2
        have y2 := cnted it.1.1 y1 (uc _ (by omega))
        obtain ⟨⟨-, sm, ev⟩, -, -⟩ := q3
        refine (sm hSR (k + 1) 1 _ _ _ _ _ h' w1 updI_s (hSm.trans w2) y2 (by rw [updO_n (by omega), updO_n (by omega)]; unfold btG; rw [updO_s, updO_n (by omega)]) (by omega) (by unfold psi at hph; unfold phi at hph ⊢; omega)).mono (fun k' h'' q' => ?_)
        obtain ⟨f', c', C', nm', g', x1, x2, x3, x4, x5, x6⟩ := q'
        obtain ⟨v1, v2, v3, v4, v5⟩ := x5
        refine ⟨f', c', C', nm', g', x1, x2, x3, fun _ => ?_, fun j hj => ?_, fun j hj hj2 hj3 => ?_, ?_, ?_, ?_, ?_⟩
        · rw [x4 0 (by omega), updI_n (by decide)]
        · rw [v2 j hj]
          by_cases w : j = 181 + 2 * q
          · subst w; rw [updO_s, updO_s]
          · rw [updO_n w, updO_n w, bg j (by omega)]
        · rw [v3 j hj hj2]
          by_cases w : j = 488 + 9 * q
          · subst w; rw [updI_s, updI_s, uc _ (by omega)]
          · rw [updI_n w, updI_n w, uc j (by omega)]
        · rw [v4, updI_n (by omega), uc 3 (by omega)]
        · rw [v5, updI_n (by omega), uc 4 (by omega)]
        · rw [v3 _ (by omega) (fun t w => by omega), updI_n (by omega), uc _ (by omega), keep]; exact h494
        · have cn1 := hM1.2.2.1.cnt hok1.2.2.1.1
          have oo : cnt (openB m1) (m1 0).toNat = cnt (openB m) (m 0).toNat := by
            rw [fw.1]
            exact cnt_congr _ (fun j hj => by unfold openB; rw [fw.2.2.1 j (by omega)])
          have m2 := fw.2.1
          unfold psi
          rw [oo]
          unfold phi at x6 ⊢
          rw [cn1, cc] at x6 ⊢
          omega
  · -- a scope opens
    rw [if_neg (fun w => by have := w.1; omega)] at hz1
    subst hz1
    rcases E with ⟨-, ⟨-, w, -⟩ | ⟨-, -, w, -⟩ | ⟨x1, x2, -, x3⟩⟩ | ⟨w, -⟩ | ⟨w, -⟩
    · exact absurd w (by decide)
    · exact absurd w (by decide)
    · have hsh := hSg s _ hs
      have hsr := hob hs
      have eN : m 0 = (((m 0).toNat : Nat) : Int) := by omega
      have eu : m (1620 + 72 * q + o) = (((m (1620 + 72 * q + o)).toNat : Nat) : Int) := by omega
      have hp0 : m (18 + 4 * (m (1620 + 72 * q + o)).toNat) = 0 := by
        rw [eu] at x2
        exact (openP_nat.mp x2).2
      have Pq : RUNM G l 6 mX3_perform [.ref r, .ref s, .int (J (c (494 + 9 * q)))] h (fun v h' => (60 ≤ (m 0).toNat ∧ v = some (.int (J 107)) ∧ h' = h) ∨ ((m 0).toNat < 60 ∧ ¬ opP c (c (494 + 9 * q)) ∧ v = some (.int (J 101)) ∧ h' = h) ∨ ((m 0).toNat < 60 ∧ opP c (c (494 + 9 * q)) ∧ v = some (.int (J 0)) ∧ isR h' r (q : Int) 1 f (oiC c (m 0).toNat Z q) (updC C 2 (updI (C 2) Z (100 + (((m 0).toNat : Nat) : Int)))) nm g ∧ Same (rBlk r) h h')) :=
        pf_plain (G := G) (l := l) 6 hsh (by decide) ⟨by decide, by decide⟩ (pf_open (G := G) (l := l) 3 hR hc hsh rfl (by rw [n0.2.1]; exact eN) (by omega) e0.1 (by have := e0.2.1; omega) rfl hqc hq10)
      obtain ⟨v, h1, w, Pe⟩ := Pq.ex
      rcases w with ⟨w, -⟩ | ⟨-, w, -⟩ | ⟨-, -, rfl, q1, q2⟩
      · omega
      · exact absurd ((op_iff n0.2.1 k0.2 A hSR).mpr (by rw [h494]; exact x2)) w
      · have y := CR_opens hC hok (N := (m 0).toNat) (p := (m (1620 + 72 * q + o)).toNat) (t := (q : Int)) eN (by omega) (by omega) (by omega) ⟨by omega, by omega⟩ e0.1
        rw [← eu] at y
        obtain ⟨o0, o1, o2, o3, o4, o6, oe⟩ := opensM_at (m := m) (C := (m 0).toNat) (p := m (1620 + 72 * q + o)) (t := (q : Int))
        obtain ⟨-, -, -, -, -, -, -, -, Ry⟩ := id y
        have cO : ∀ j, ¬ j = 494 + 9 * q → oiC c (m 0).toNat Z q j = adE (asC c (m 0).toNat (m (1620 + 72 * q + o)) (q : Int)) Z j := fun j hj => by unfold oiC; rw [h494, updI_n hj]
        have cH : ∀ j, (488 ≤ j ∨ j = 3 ∨ j = 4) → ¬ j = 494 + 9 * q → oiC c (m 0).toNat Z q j = c j := fun j h1 h2 => by
          rw [cO j h2]; unfold adE asC
          rw [updI_n (by omega), updI_n (by omega), updI_n (by omega), updI_n (by omega), updI_n (by omega)]
        have mH : ∀ j, ¬ j = 1619 + 72 * q → ¬ j = 1620 + 72 * q + (o + 1) → m1 j = opensM m (m 0).toNat (m (1620 + 72 * q + o)) q j := fun j a b => by rw [x3, updI_n a, updI_n b]
        have mo : mOk (opensM m (m 0).toNat (m (1620 + 72 * q + o)) q) := by
          refine ⟨fun j => ?_, ?_⟩
          · by_cases w : j = 1619 + 72 * q ∨ j = 1620 + 72 * q + (o + 1)
            · rw [oe j (by omega) (by omega) (by omega)]; exact hok.1 j
            · rw [← mH j (by omega) (by omega)]; exact hok1.1 j
          · rw [o0, oe 1 (by omega) (by omega) (by omega), oe 2 (by omega) (by omega) (by omega), oe 3 (by omega) (by omega) (by omega), oe 4 (by omega) (by omega) (by omega), oe 5 (by omega) (by omega) (by omega)]
            exact ⟨⟨by omega, by omega⟩, hok.2.2.1, hok.2.2.2.1, hok.2.2.2.2.1, hok.2.2.2.2.2.1, hok.2.2.2.2.2.2.1, fun u hu => by rw [oe _ (by omega) (by omega) (by omega)]; exact hok.2.2.2.2.2.2.2 u hu⟩
        have yo : CR m1 pool S (oiC c (m 0).toNat Z q) (updC C 2 (updI (C 2) Z (100 + (((m 0).toNat : Nat) : Int)))) nm g := by
          refine y.see mo (Int.le_refl _) (fun j hj => ?_) (fun j hj => ?_) (fun j => ?_) (fun _ _ => rfl)
          · refine mH j (fun w => ?_) (fun w => ?_)
            · subst w
              rcases hj with w | w | w | ⟨t, w | w⟩ <;> omega
            · subst w
              rcases hj with w | w | w | ⟨t, w | w⟩ <;> omega
          · refine cO j (fun w => ?_)
            subst w
            rcases hj with w | w | w | w | w | ⟨t, w | w⟩ <;> omega
          · by_cases w : j = 494 + 9 * q
            · subst w; unfold oiC; rw [updI_s]; exact ⟨by omega, by omega⟩
            · rw [cO j w]; exact Ry.1 j
        obtain ⟨-, -, -, -, -, -, -, -, R'⟩ := id yo
        refine (go_tone hR hc hf hkk hqc hq10 hst hg hsh hsr ⟨by decide, by decide⟩ (by decide) R'.1 (z' := 1) ⟨by decide, by decide⟩ (by decide) (Pe.mono (fun v h' w => by
          obtain ⟨rfl, rfl⟩ := w
          exact ⟨rfl, q1, q2⟩))).mono (fun k' h' w => ?_)
        obtain ⟨rfl, w1, w2⟩ := w
        have e488 := cH (488 + 9 * q) (by omega) (by omega)
        refine ⟨f, _, _, nm, _, w1, hSm.trans w2, cnted hok1 yo e488, fun _ => rfl, fun j hj => rfl, fun j hj hj2 hj3 => ?_, ?_, ?_, ?_, ?_⟩
        · by_cases w : j = 488 + 9 * q
          · subst w; rw [updI_s, updI_s, e488]
          · rw [updI_n w, updI_n w]; exact cH j (Or.inl hj) hj3
        · rw [updI_n (by omega)]; exact cH 3 (by omega) (by omega)
        · rw [updI_n (by omega)]; exact cH 4 (by omega) (by omega)
        · rw [updI_n (by omega), x3, updI_n (by omega), updI_s]; unfold oiC; rw [updI_s]; omega
        · have cn1 := hM1.2.2.1.cnt hok1.2.2.1.1
          have M0 : m1 0 = m 0 + 1 := by rw [mH 0 (by omega) (by omega), o0]; omega
          have M2 : m1 2 = m 2 := by rw [mH 2 (by omega) (by omega), oe 2 (by omega) (by omega) (by omega)]
          have oo : cnt (openB m1) (m 0).toNat = cnt (openB m) (m 0).toNat := cnt_congr _ (fun j hj => by unfold openB; rw [mH _ (by omega) (by omega), oe _ (by omega) (by omega) (by omega)])
          have o2 : cnt (openB m1) ((m 0).toNat + 1) ≤ cnt (openB m1) (m 0).toNat + 1 := by rw [cnt_S]; split <;> omega
          unfold psi phi
          rw [cn1, cc, M0, M2, show (m 0 + 1).toNat = (m 0).toNat + 1 by omega]
          omega
    · omega
    · exact absurd hp w
  · -- a scope is shut
    rw [if_neg (fun w => by have := w.1; omega)] at hz1
    subst hz1
    rcases E with ⟨w, -⟩ | ⟨-, -, E⟩ | ⟨-, w, -⟩
    · omega
    · subst ho
      have hsh := hSg s _ hs
      have hsr := hob hs
      have lt := stk_lt hsc k0.2 a8 o' (by omega)
      have par := a8.2.2 o' (by omega)
      obtain ⟨u, eu⟩ : ∃ u : Nat, m (1620 + 72 * q + (o' + 1)) = u := ⟨(m (1620 + 72 * q + (o' + 1))).toNat, by omega⟩
      rw [eu] at lt E par h494 top
      rw [show ((u : Int)).toNat = u by omega] at par
      have hu0 : (u : Int) < m 0 := top.2
      obtain ⟨A1, A2, -⟩ := A u hu0
      rw [par] at A2
      have sr := hSR u hu0
      have um : ∀ j, ¬ j = 1619 + 72 * q → updI m (1619 + 72 * q) (((o' + 1 + 1 : Nat) : Int) - 1) j = m j := fun j w => updI_n w
      have hM2 : Mid (updI m (1619 + 72 * q) (((o' + 1 + 1 : Nat) : Int) - 1)) pool B := hM.out ⟨by omega, by omega⟩ (by omega)
      have y2 : CR (updI m (1619 + 72 * q) (((o' + 1 + 1 : Nat) : Int) - 1)) pool S c C nm g := hC.see hok (Int.le_refl _) (fun j hj => um j (fun w => by
        subst w
        rcases hj with w | w | w | ⟨t, w | w⟩ <;> omega)) (fun _ _ => rfl) hc (fun _ _ => rfl)
      have p2 : psi (k + 1) (updI m (1619 + 72 * q) (((o' + 1 + 1 : Nat) : Int) - 1)) = psi k m + 1 := by
        have c1 : cnt (cngB (updI m (1619 + 72 * q) (((o' + 1 + 1 : Nat) : Int) - 1))) (m 1).toNat = cnt (cngB m) (m 1).toNat := cnt_congr _ (fun j hj => by
          show decide (updI m (1619 + 72 * q) (((o' + 1 + 1 : Nat) : Int) - 1) (258 + 14 * j) = 1) = decide (m (258 + 14 * j) = 1)
          rw [um _ (by omega)])
        have c2 : cnt (openB (updI m (1619 + 72 * q) (((o' + 1 + 1 : Nat) : Int) - 1))) (m 0).toNat = cnt (openB m) (m 0).toNat := cnt_congr _ (fun j hj => by unfold openB; rw [um _ (by omega)])
        unfold psi phi
        rw [um 0 (by omega), um 1 (by omega), um 2 (by omega), c1, c2]
        omega
      have Pq : RUNM G l 6 mX3_perform [.ref r, .ref s, .int (J (c (494 + 9 * q)))] h _ :=
        pf_plain (G := G) (l := l) 6 hsh (by decide) ⟨by decide, by decide⟩ (pf_shut (G := G) (l := l) 2 hR hc hsh rfl ⟨by decide, by decide⟩ rfl hqc hq10 h494 (by rw [n0.2.1]; exact hu0) (by omega) (by rw [h494, h493, a6]; omega))
      obtain ⟨v, h1, ⟨rfl, w, q2⟩, Pe⟩ := Pq.ex
      rcases w with ⟨w, q1⟩ | ⟨w, q1⟩
      · have ho : m (18 + 4 * u) = 0 := (swT_0 sr).mp (by rw [← A1]; exact w)
        have ho2 : updI m (1619 + 72 * q) (((o' + 1 + 1 : Nat) : Int) - 1) (18 + 4 * u) = 0 := by rw [um _ (by omega)]; exact ho
        have y3 := CR_scb y2 hM2.1.1 (Int.le_refl _) (a := u) (by rw [um 0 (by omega)]; exact hu0) ho2
        have ok3 := (hM2.1.scope (s := u) (v := 1) (by omega) (by decide)).1
        obtain ⟨-, -, -, -, -, -, -, -, R3⟩ := id y3
        have y4 : CR (updI (updI m (1619 + 72 * q) (((o' + 1 + 1 : Nat) : Int) - 1)) (18 + 4 * u) 1) pool S (updI (updI c (304 + 3 * u) 2) (494 + 9 * q) (c (305 + 3 * u))) C nm g := y3.see ok3 (Int.le_refl _) (fun _ _ => rfl) (fun j hj => updI_n (fun w => by
          subst w
          rcases hj with w | w | w | w | w | ⟨t, w | w⟩ <;> omega)) (fun j => by
          by_cases w : j = 494 + 9 * q
          · subst w; rw [updI_s]; exact hc _
          · rw [updI_n w]; exact R3.1 j) (fun _ _ => rfl)
        obtain ⟨-, -, -, -, -, -, -, -, R'⟩ := id y4
        have cH : ∀ j, (488 ≤ j ∨ j = 3 ∨ j = 4) → ¬ j = 494 + 9 * q → updI (updI c (304 + 3 * u) 2) (494 + 9 * q) (c (305 + 3 * u)) j = c j := fun j h1 h2 => by rw [updI_n h2, updI_n (by omega)]
        have e488 := cH (488 + 9 * q) (by omega) (by omega)
        refine (go_tone hR hc hf hkk hqc hq10 hst hg hsh hsr ⟨by decide, by decide⟩ (by decide) R'.1 (z' := 1 + 1) ⟨by decide, by decide⟩ (by decide) (Pe.mono (fun v h' w => by
          obtain ⟨rfl, rfl⟩ := w
          exact ⟨rfl, q1, q2⟩))).bind (fun k' h' w => ?_)
        obtain ⟨rfl, w1, w2⟩ := w
        have y5 := cnted ok3 y4 e488
        obtain ⟨-, sm, -, -, es⟩ := E
        refine (sm u rfl (by rw [um 0 (by omega)]; exact hu0) ho2 (k + 1) 1 _ _ _ _ _ h' w1 updI_s (hSm.trans w2) y5 (by omega) (by rw [p2]; omega)).mono (fun k' h'' q' => ?_)
        obtain ⟨f', c', C', nm', g', x1, x2, x3, x4, x5, x6⟩ := q'
        obtain ⟨v1, v2, v3, v4⟩ := x5
        refine ⟨f', c', C', nm', g', x1, x2, x3, fun _ => ?_, fun j hj => ?_, fun j hj hj2 hj3 => ?_, ?_, ?_, ?_, ?_⟩
        · rw [x4 0 (by omega), updI_n (by decide)]
        · exact v1 j hj
        · rw [v2 j hj hj2]
          by_cases w : j = 488 + 9 * q
          · subst w; rw [updI_s, updI_s, e488]
          · rw [updI_n w, updI_n w]; exact cH j (Or.inl hj) hj3
        · rw [v3, updI_n (by omega)]; exact cH 3 (by omega) (by omega)
        · rw [v4, updI_n (by omega)]; exact cH 4 (by omega) (by omega)
        · rw [v2 _ (by omega) (fun t w => by omega), updI_n (by omega), updI_s, A2, es.1 _ (Or.inr (Or.inr (Or.inr (Or.inr (Or.inr ⟨by omega, by omega, fun t w => by omega⟩))))), um _ (by omega)]
        · rw [p2, if_neg (by omega)] at x6
          omega
      · have ho : ¬ m (18 + 4 * u) = 0 := fun z => w (by rw [A1]; exact (swT_0 sr).mpr z)
        have em : m1 = updI m (1619 + 72 * q) (((o' + 1 + 1 : Nat) : Int) - 1) := by
          obtain ⟨⟨-, -, ⟨-, x⟩ | ⟨x, -⟩⟩, -⟩ := E
          · exact x
          · exact absurd (by have := (openP_nat.mp x).2; rw [um _ (by omega)] at this; exact this) ho
        have y4 : CR m1 pool S (updI c (494 + 9 * q) (c (305 + 3 * u))) C nm g := by
          rw [em]
          refine y2.see hM2.1.1 (Int.le_refl _) (fun _ _ => rfl) (fun j hj => updI_n (fun w => ?_)) (fun j => ?_) (fun _ _ => rfl)
          · subst w
            rcases hj with w | w | w | w | w | ⟨t, w | w⟩ <;> omega
          · by_cases w : j = 494 + 9 * q
            · subst w; rw [updI_s]; exact hc _
            · rw [updI_n w]; exact hc j
        obtain ⟨-, -, -, -, -, -, -, -, R'⟩ := id y4
        have e488 : updI c (494 + 9 * q) (c (305 + 3 * u)) (488 + 9 * q) = c (488 + 9 * q) := updI_n (by omega)
        refine (go_tone hR hc hf hkk hqc hq10 hst hg hsh hsr ⟨by decide, by decide⟩ (by decide) R'.1 (z' := 1) ⟨by decide, by decide⟩ (by decide) (Pe.mono (fun v h' w => by
          obtain ⟨rfl, rfl⟩ := w
          exact ⟨rfl, q1, q2⟩))).mono (fun k' h' w => ?_)
        obtain ⟨rfl, w1, w2⟩ := w
        refine ⟨f, _, C, nm, _, w1, hSm.trans w2, cnted hok1 y4 e488, fun _ => rfl, fun j hj => rfl, fun j hj hj2 hj3 => ?_, ?_, ?_, ?_, ?_⟩
        · by_cases w : j = 488 + 9 * q
          · subst w; rw [updI_s, updI_s, e488]
          · rw [updI_n w, updI_n w, updI_n hj3]
        · rw [updI_n (by omega), updI_n (by omega)]
        · rw [updI_n (by omega), updI_n (by omega)]
        · rw [updI_n (by omega), updI_s, A2, em, um _ (by omega)]
        · rw [em, p2]; omega
    · exact absurd hp w
end TS2
end mg_a9

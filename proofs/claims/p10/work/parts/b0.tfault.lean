/-! ===== a task's fault; its scopes at its end ===== -/
section TF
variable {G : mG} {l : Launch} {r : Nat} {b : Int} {pool : Nat → Int} {S : Nat → Option mO} {h0 : mH}
/-- what a step of a task leaves of the tasks -/
theorem doesIn_out {m m1 : Nat → Int} {B : Int} {q p o e o' kk : Nat} {fl : Int} (hM : Mid m pool B) (hT : TkM m pool q) (hq : (q : Int) < m 3) (hn : m (1619 + 72 * q) = (o : Int) + 1) (hK : stepK pool (stsC pool kk) o p e o') (hD : doesInR pool (clT G l r b pool S h0) (shS G l r b pool S h0 61) m q p fl m1) :
    (∀ j, 1608 ≤ j → j < 2328 → (∀ t : Nat, j ≠ 1614 + 72 * t) → (j < 1619 + 72 * q ∨ 1680 + 72 * q ≤ j) → m1 j = m j) ∧ (fl = 0 → m1 (1619 + 72 * q) = (o' : Int) + 1) := by
  have hok := hM.1.1
  have k0 := hok.2.1
  have k1 := hok.2.2.1
  have k3 := hok.2.2.2.2.1
  obtain ⟨a1, a2, a3, a4, a5, a6, ⟨n, a7, a8⟩, a9, a10⟩ := id (hT.2 q hq).1
  obtain rfl : n = o + 1 := by omega
  have top := a8.2.1 o (by omega)
  obtain ⟨-, -, -, n, n60, nn, E⟩ := hD
  obtain rfl : n = o + 1 := by omega
  rcases E with ⟨x, E⟩ | ⟨x, x2, E⟩ | ⟨x, y, E⟩
  · rcases E with ⟨-, rfl, rfl⟩ | ⟨-, -, rfl, rfl⟩ | ⟨x1, x2, -, x3⟩
    · exact ⟨fun _ _ _ _ _ => rfl, fun w => absurd w (by decide)⟩
    · exact ⟨fun _ _ _ _ _ => rfl, fun w => absurd w (by decide)⟩
    · obtain ⟨o0, o1, o2, o3, o4, o6, oe⟩ := opensM_at (m := m) (C := (m 0).toNat) (p := m (1619 + 72 * q + (o + 1))) (t := (q : Int))
      refine ⟨fun j h1 h2 h3 h4 => ?_, fun _ => ?_⟩
      · rw [x3, updI_n (by omega), updI_n (by omega), oe j (by omega) (by omega) (by omega)]
      · rw [x3, updI_s]
        rcases hK with ⟨z, -⟩ | ⟨-, -, rfl⟩ | ⟨z, -⟩
        · exfalso
          rcases z with (z | z | z | z | z | z | z) | z
          all_goals (have := z.1; omega)
        · rfl
        · omega
  · obtain ⟨-, -, -, -, es⟩ := E
    have fa : ∀ j, 1608 ≤ j → j < 2328 → (∀ t : Nat, j ≠ 1614 + 72 * t) → m1 j = updI m (1619 + 72 * q) (((o + 1 : Nat) : Int) - 1) j := fun j a b d => es.1 j (Or.inr (Or.inr (Or.inr (Or.inr (Or.inr ⟨a, b, d⟩)))))
    refine ⟨fun j h1 h2 h3 h4 => ?_, fun _ => ?_⟩
    · rw [fa j h1 h2 h3, updI_n (by omega)]
    · rw [fa _ (by omega) (by omega) (fun t w => by omega), updI_s]
      rcases hK with ⟨z, -⟩ | ⟨z, -, rfl⟩ | ⟨-, -, z⟩
      · exfalso
        rcases z with (z | z | z | z | z | z | z) | z
        all_goals (have := z.1; omega)
      · omega
      · omega
  · have fw : few m m1 := does_few hok (fun t m' x => by
      obtain ⟨⟨-, -, ev⟩, -, x2⟩ := x
      exact ⟨ev.1 0 (Or.inl rfl), by omega, fun c hc => ev.1 _ (by unfold far; omega), fun k a b d => ev.1 k (fat_far (Or.inr (Or.inr (Or.inr (Or.inr (Or.inr ⟨a, b, d⟩))))))⟩) E
    refine ⟨fun j h1 h2 h3 h4 => fw.2.2.2 j h1 h2 h3, fun _ => ?_⟩
    rw [fw.2.2.2 _ (by omega) (by omega) (fun t w => by omega), hn]
    rcases hK with ⟨-, rfl⟩ | ⟨z, -⟩ | ⟨z, -⟩
    · rfl
    · exact absurd z x
    · exact absurd z y
theorem go_tfault (hS : ∀ a o, S a = some o → hGet h0 a = some o) (hSr : ∀ a, ¬ S a = none → ¬ rBlk r a) (hPo : poolOk pool) {m m1 : Nat → Int} {B : Int} {q k o : Nat} {f c : Nat → Int} {C : Nat → Nat → Int} {nm : Nat → Int64} {g : Nat → Option Nat} {h : mH} (hM : Mid m pool B) (hT : TkM m pool q) (hq : (q : Int) < m 3) (hrd : m (1610 + 72 * q) = 0)
    (hR : isR h r (q : Int) 1 f c C nm g) (hf : f 0 = 200 + (q : Int)) (hSm : Same (rBlk r) h0 h) (hC : CR m pool S c C nm g) (h494 : c (494 + 9 * q) = m (1620 + 72 * q + o)) (hn : m (1619 + 72 * q) = (o : Int) + 1) (hph : psi k m + 400 ≤ 900000)
    {s hi p e kk o' : Nat} {nx : Option Nat} (hg : g (181 + 2 * q) = some s) (hK : stK S pool (stL S pool kk false 0) true o s nx hi p e o') (he : ¬ dgP (pool e)) {fl : Int} (hfr : InR fl) (hfl : ¬ fl = 0) (hD : doesInR pool (clT G l r b pool S h0) (shS G l r b pool S h0 61) m q p fl m1) :
    m1 = m ∧ GOES G l r k h (fun k' h' => k' = k + 1 ∧ isR h' r (q : Int) 1 f (updI (updI c (495 + 9 * q) fl) (489 + 9 * q) 2) C nm g ∧ Same (rBlk r) h h') := by
  obtain ⟨hI, hsc, hnc, hns⟩ := id hM
  have hok := hI.1
  have k0 := hok.2.1
  have k1 := hok.2.2.1
  have k2 := hok.2.2.2.1
  have k3 := hok.2.2.2.2.1
  obtain ⟨n0, T, A, K, L, ⟨Z, e0⟩, F0, Gg, hc, hCC⟩ := id hC
  obtain ⟨a1, a2, a3, a4, a5, a6, ⟨n, a7, a8⟩, a9, a10⟩ := id (hT.2 q hq).1
  obtain rfl : n = o + 1 := by omega
  have top := a8.2.1 o (by omega)
  have co := cnt_r (openB m) (m 0).toNat
  have cc := hnc.cnt k1.1
  have hkk : k < 1000000 := by unfold psi phi at hph; omega
  have hq10 : q < 10 := by omega
  have hqc : (q : Int) < c 2 := by rw [n0.2.2.1]; exact hq
  have hst : c (489 + 9 * q) = 0 := by rw [(K q hq).1]; exact hrd
  have hSR : SR m := fun a ha => (hsc.2.2 a ha).1
  have hSg : ∀ a o, S a = some o → hGet h a = some o := fun a o ha => (hSm.2.2.2 a (hSr a (by rw [ha]; exact fun q => by cases q))).trans (hS a o ha)
  have hob : ∀ {a kd num vl : _} {y : Int64} {inn nx : Option Nat}, S a = some (stO kd num vl y inn nx) → ¬ rBlk r a := fun ha => hSr _ (by rw [ha]; exact fun q => by cases q)
  obtain ⟨-, -, -, n, n60, nn, E⟩ := hD
  obtain rfl : n = o + 1 := by omega
  have etop : m (1619 + 72 * q + (o + 1)) = m (1620 + 72 * q + o) := by congr 1; omega
  rw [etop] at E
  rcases hK with ⟨hQ, rfl⟩ | ⟨-, -, hp, -, rfl, num, vl, y, inn, hs⟩ | ⟨-, -, hp, -, ho, num, vl, y, inn, hs⟩
  · have hpk : ¬ pool p = 40 ∧ ¬ pool p = 41 := by
      rcases hQ with ⟨-, num, vl, y, inn, -, w⟩ | ⟨-, w, -⟩
      · rcases w with w | w | w | w | w | w | w
        all_goals (have := w.1; constructor <;> omega)
      · constructor <;> omega
    rcases E with ⟨x, -⟩ | ⟨x, -⟩ | ⟨-, -, E⟩
    · exact absurd x hpk.1
    · exact absurd x hpk.2
    have em := pf_same hfl E
    obtain ⟨kd, num, vl, y, inn, hs⟩ : ∃ kd num vl y inn, S s = some (stO kd num vl y inn nx) := by
      rcases hQ with ⟨-, num, vl, y, inn, hs, -⟩ | ⟨-, w, -, -, q, b', y, nx2, hs, -⟩
      · exact ⟨_, _, _, _, _, hs⟩
      · exact ⟨_, _, _, _, _, hs⟩
    have Pq := pfm_Q (G := G) (l := l) hPo hR hSg hSr ⟨by decide, by decide⟩ hC hI hSR hQ he (hc (494 + 9 * q)) (by rw [h494]; exact E)
    refine ⟨em, go_task (k := k) hR ⟨by omega, by omega⟩ hkk hq10 hf ((cr_taskFault (G := G) (l := l) 5 hR hc hqc hq10 hst hg (hSg s _ hs) (hob hs) hfr hfl (Pq.mono (fun v h' w => ?_))).deeper (by decide))⟩
    obtain ⟨w1, ⟨-, -, w2⟩ | ⟨w2, -⟩⟩ := w
    · exact ⟨w1, w2⟩
    · exact absurd w2 hfl
  · rcases E with ⟨-, E⟩ | ⟨w, -⟩ | ⟨w, -⟩
    · have hsh := hSg s _ hs
      have hsr := hob hs
      have eN : m 0 = (((m 0).toNat : Nat) : Int) := by omega
      have Pq : RUNM G l 6 mX3_perform [.ref r, .ref s, .int (J (c (494 + 9 * q)))] h (fun v h' => (60 ≤ (m 0).toNat ∧ v = some (.int (J 107)) ∧ h' = h) ∨ ((m 0).toNat < 60 ∧ ¬ opP c (c (494 + 9 * q)) ∧ v = some (.int (J 101)) ∧ h' = h) ∨ ((m 0).toNat < 60 ∧ opP c (c (494 + 9 * q)) ∧ v = some (.int (J 0)) ∧ isR h' r (q : Int) 1 f (oiC c (m 0).toNat Z q) (updC C 2 (updI (C 2) Z (100 + (((m 0).toNat : Nat) : Int)))) nm g ∧ Same (rBlk r) h h')) :=
        pf_plain (G := G) (l := l) 6 hsh (by decide) ⟨by decide, by decide⟩ (pf_open (G := G) (l := l) 3 hR hc hsh rfl (by rw [n0.2.1]; exact eN) (by omega) e0.1 (by have := e0.2.1; omega) rfl hqc hq10)
      have iff := op_iff n0.2.1 k0.2 A hSR (i := c (494 + 9 * q))
      rw [h494] at iff
      have em : m1 = m := by
        rcases E with ⟨-, -, w⟩ | ⟨-, -, -, w⟩ | ⟨-, -, w, -⟩
        · exact w
        · exact w
        · exact absurd w hfl
      refine ⟨em, go_task (k := k) hR ⟨by omega, by omega⟩ hkk hq10 hf ((cr_taskFault (G := G) (l := l) 5 hR hc hqc hq10 hst hg hsh hsr hfr hfl (Pq.mono (fun v h' w => ?_))).deeper (by decide))⟩
      rw [h494] at w
      rcases E with ⟨x1, rfl, -⟩ | ⟨x1, x2, rfl, -⟩ | ⟨-, -, x, -⟩
      · rcases w with ⟨-, w⟩ | ⟨w, -⟩ | ⟨w, -⟩
        · exact w
        · omega
        · omega
      · rcases w with ⟨w, -⟩ | ⟨-, -, w⟩ | ⟨-, w, -⟩
        · omega
        · exact w
        · exact absurd (iff.mp w) x2
      · exact absurd x hfl
    · omega
    · exact absurd hp w
  · rcases E with ⟨w, -⟩ | ⟨-, w, -⟩ | ⟨-, w, -⟩
    · omega
    · exact absurd w hfl
    · exact absurd hp w
/-- the scope where a task is, when the task is over, comes to its end -/
theorem over_top {m m1 : Nat → Int} {B : Int} {q k u : Nat} {f c : Nat → Int} {C : Nat → Nat → Int} {nm : Nat → Int64} {g : Nat → Option Nat} {h : mH} (hM : Mid m pool B) (hq : (q : Int) < m 3) (hst : ¬ m (1610 + 72 * q) = 0)
    (hR : isR h r b 1 f c C nm g) (hf : f 0 = 200 + (q : Int)) (hSm : Same (rBlk r) h0 h) (hC : CR m pool S c C nm g) (h494 : c (494 + 9 * q) = (u : Int)) (hu1 : 1 ≤ u) (hu : (u : Int) < m 0) (hph : psi k m + 400 ≤ 900000) (hD : shS G l r b pool S h0 61 m (u : Int) m1) :
    GOES G l r k h (fun k' h' => ∃ f' c' C' nm' g', isR h' r b 1 f' c' C' nm' g' ∧ f' 0 = 200 + (q : Int) ∧ Same (rBlk r) h0 h' ∧ CR m1 pool S c' C' nm' g' ∧ KPk c c' g g' ∧ psi k' m1 ≤ psi k m) ∧ Mid m1 pool (max B (Classical.choose hD.2.2.1)) ∧ ¬ m1 (18 + 4 * u) = 0 ∧ Es m m1 := by
  obtain ⟨hI, hsc, hnc, hns⟩ := id hM
  have hok := hI.1
  have k0 := hok.2.1
  have k1 := hok.2.2.1
  have k2 := hok.2.2.2.1
  have k3 := hok.2.2.2.2.1
  obtain ⟨n0, T, A, K, L, ⟨Z, e0⟩, F0, Gg, hc, hCC⟩ := id hC
  have co := cnt_r (openB m) (m 0).toNat
  have cc := hnc.cnt k1.1
  have hkk : k < 1000000 := by unfold psi phi at hph; omega
  have hq10 : q < 10 := by omega
  have hqc : (q : Int) < c 2 := by rw [n0.2.2.1]; exact hq
  have hstc : ¬ c (489 + 9 * q) = 0 := by rw [(K q hq).1]; exact hst
  obtain ⟨A1, A2, -⟩ := A u hu
  have sr := (hsc.2.2 u hu).1
  have hB' := Classical.choose_spec hD.2.2.1
  obtain ⟨hS1, sm, -, sci, es⟩ := id hD
  have md : Mid m1 pool (max B (Classical.choose hD.2.2.1)) := ⟨hB'.up (Int.le_max_right _ _), sci, es.2.2.2.1 hnc, es.ns hns k0.2⟩
  by_cases ho : m (18 + 4 * u) = 0
  · have y := CR_scb hC hok (Int.le_refl _) hu ho
    have P := cr_scopesOpen (G := G) (l := l) 7 hR hc ⟨by decide, by decide⟩ hq10 h494 (by rw [n0.2.1]; exact hu) (by omega) (by rw [A1]; exact (swT_0 sr).mpr ho)
    refine ⟨(go_task (k := k) hR ⟨by omega, by omega⟩ hkk hq10 hf ((cr_taskOver (G := G) (l := l) 9 hR hc hqc hq10 hstc P).deeper (by decide))).bind (fun k' h' w => ?_), md, ?_, es⟩
    · obtain ⟨rfl, w1, w2⟩ := w
      have pk : psi (k + 1) m = psi k m + 1 := by unfold psi phi; omega
      refine (sm u rfl hu ho (k + 1) 1 _ _ _ _ _ h' w1 updI_s (hSm.trans w2) y (by omega) (by omega)).mono (fun k' h'' q' => ?_)
      obtain ⟨f', c', C', nm', g', x1, x2, x3, x4, x5, x6⟩ := q'
      obtain ⟨v1, v2, v3, v4⟩ := x5
      have uc : ∀ j, ¬ j = 304 + 3 * u → updI c (304 + 3 * u) 2 j = c j := fun j hj => updI_n hj
      rw [if_neg (by omega)] at x6
      refine ⟨f', c', C', nm', g', x1, ?_, x2, x3, ⟨v1, fun j a d => ?_, ?_, ?_⟩, by omega⟩
      · rw [x4 0 (by omega), updI_n (by decide)]; exact hf
      · rw [v2 j a d]; exact uc j (by omega)
      · rw [v3]; exact uc 3 (by omega)
      · rw [v4]; exact uc 4 (by omega)
    · obtain ⟨-, -, ⟨x, -⟩ | ⟨-, kf, m2, -, x⟩⟩ := hS1
      · exact absurd (openP_nat.mpr ⟨hu, ho⟩) x
      · rw [x, show (18 + 4 * (u : Int)).toNat = 18 + 4 * u by omega, updI_s, if_neg (by omega)]; decide
  · have em : m1 = m := by
      obtain ⟨-, -, ⟨-, x⟩ | ⟨x, -⟩⟩ := hS1
      · exact x
      · exact absurd (openP_nat.mp x).2 ho
    refine ⟨GOES.rf ⟨f, c, C, nm, g, hR, hf, hSm, by rw [em]; exact hC, KPk.rf, by rw [em]; exact Int.le_refl _⟩, md, by rw [em]; exact ho, es⟩
end TF

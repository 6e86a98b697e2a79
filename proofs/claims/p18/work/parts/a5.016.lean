section mg_b0
section TF
variable {G : mG} {l : Launch} {r : Nat} {b : Int} {pool : Nat → Int} {S : Nat → Option mO} {h0 : mH}
/-- the scope where a task is, when the task is over, comes to its end -/
theorem over_top {m m1 : Nat → Int} {B : Int} {q k u : Nat} {f c : Nat → Int} {C : Nat → Nat → Int} {nm : Nat → Int64} {g : Nat → Option Nat} {h : mH} (hM : Mid m pool B) (hq : (q : Int) < m 3) (hst : ¬ m (1610 + 72 * q) = 0)
    (hR : isR h r b 1 f c C nm g) (hf : f 0 = 200 + (q : Int)) (hSm : Same (rBlk r) h0 h) (hC : CR m pool S c C nm g) (h494 : c (494 + 9 * q) = (u : Int)) (hu1 : 1 ≤ u) (hu : (u : Int) < m 0) (hph : psi k m + 400 ≤ 900000) (hD : shS G l r b pool S h0 61 m (u : Int) m1) :
    GOES G l r k h (fun k' h' => ∃ f' c' C' nm' g', isR h' r b 1 f' c' C' nm' g' ∧ f' 0 = 200 + (q : Int) ∧ Same (rBlk r) h0 h' ∧ CR m1 pool S c' C' nm' g' ∧ KPk c c' g g' ∧ psi k' m1 ≤ psi k m) ∧ Mid m1 pool (max B (Classical.choose hD.2.2.1)) ∧ ¬ m1 (18 + 4 * u) = 0 ∧ Es m m1 := by
  obtain ⟨hI, hsc, hnc, hns⟩ := id hM
  have hok := hI.1
  have k0 := hok.2.1
  have k1 := hok.2.2.1
  have k2 := hok.2.2.2.1
  have k3 := hok.2.2.2.2.1
  obtain ⟨n0, T, A, K, L, ⟨Z, e0⟩, F0, Gg, hc, hCC⟩ := id hC
  have co := cnt_r (openB m) (m 0).toNat
  have cc := hnc.cnt k1.1
  have hkk : k < 1000000 := by unfold psi phi at hph; omega
  have hq10 : q < 10 := by omega
  have hqc : (q : Int) < c 2 := by rw [n0.2.2.1]; exact hq
  have hstc : ¬ c (489 + 9 * q) = 0 := by rw [(K q hq).1]; exact hst
  obtain ⟨A1, A2, -⟩ := A u hu
  have sr := (hsc.2.2 u hu).1
  have hB' := Classical.choose_spec hD.2.2.1
  obtain ⟨hS1, sm, -, sci, es⟩ := id hD
  have md : Mid m1 pool (max B (Classical.choose hD.2.2.1)) := ⟨hB'.up (Int.le_max_right _ _), sci, es.2.2.2.1 hnc, es.ns hns k0.2⟩
  by_cases ho : m (18 + 4 * u) = 0
  · have y := CR_scb hC hok (Int.le_refl _) hu ho
    have P := cr_scopesOpen (G := G) (l := l) 7 hR hc ⟨by decide, by decide⟩ hq10 h494 (by rw [n0.2.1]; exact hu) (by omega) (by rw [A1]; exact (swT_0 sr).mpr ho)
    refine ⟨(go_task (k := k) hR ⟨by omega, by omega⟩ hkk hq10 hf ((cr_taskOver (G := G) (l := l) 9 hR hc hqc hq10 hstc P).deeper (by decide))).bind (fun k' h' w => ?_), md, ?_, es⟩
    · obtain ⟨rfl, w1, w2⟩ := w
      have pk : psi (k + 1) m = psi k m + 1 := by unfold psi phi; omega
      refine (sm u rfl hu ho (k + 1) 1 _ _ _ _ _ h' w1 updI_s (hSm.trans w2) y (by omega) (by omega)).mono (fun k' h'' q' => ?_)
      obtain ⟨f', c', C', nm', g', x1, x2, x3, x4, x5, x6⟩ := q'
      obtain ⟨v1, v2, v3, v4⟩ := x5
      have uc : ∀ j, ¬ j = 304 + 3 * u → updI c (304 + 3 * u) 2 j = c j := fun j hj => updI_n hj
      rw [if_neg (by omega)] at x6
      refine ⟨f', c', C', nm', g', x1, ?_, x2, x3, ⟨v1, fun j a d => ?_, ?_, ?_⟩, by omega⟩
      · rw [x4 0 (by omega), updI_n (by decide)]; exact hf
      · rw [v2 j a d]; exact uc j (by omega)
      · rw [v3]; exact uc 3 (by omega)
      · rw [v4]; exact uc 4 (by omega)
    · obtain ⟨-, -, ⟨x, -⟩ | ⟨-, kf, m2, -, x⟩⟩ := hS1
      · exact absurd (openP_nat.mpr ⟨hu, ho⟩) x
      · rw [x, show (18 + 4 * (u : Int)).toNat = 18 + 4 * u by omega, updI_s, if_neg (by omega)]; decide
  · have em : m1 = m := by
      obtain ⟨-, -, ⟨-, x⟩ | ⟨x, -⟩⟩ := hS1
      · exact x
      · exact absurd (openP_nat.mp x).2 ho
    refine ⟨GOES.rf ⟨f, c, C, nm, g, hR, hf, hSm, by rw [em]; exact hC, KPk.rf, by rw [em]; exact Int.le_refl _⟩, md, by rw [em]; exact ho, es⟩
end TF
end mg_b0

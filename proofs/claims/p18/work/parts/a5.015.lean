section mg_b0
section TF
variable {G : mG} {l : Launch} {r : Nat} {b : Int} {pool : Nat → Int} {S : Nat → Option mO} {h0 : mH}
theorem go_tfault (hS : ∀ a o, S a = some o → hGet h0 a = some o) (hSr : ∀ a, ¬ S a = none → ¬ rBlk r a) (hPo : poolOk pool) {m m1 : Nat → Int} {B : Int} {q k o : Nat} {f c : Nat → Int} {C : Nat → Nat → Int} {nm : Nat → Int64} {g : Nat → Option Nat} {h : mH} (hM : Mid m pool B) (hT : TkM m pool q) (hq : (q : Int) < m 3) (hrd : m (1610 + 72 * q) = 0)
    (hR : isR h r (q : Int) 1 f c C nm g) (hf : f 0 = 200 + (q : Int)) (hSm : Same (rBlk r) h0 h) (hC : CR m pool S c C nm g) (h494 : c (494 + 9 * q) = m (1620 + 72 * q + o)) (hn : m (1619 + 72 * q) = (o : Int) + 1) (hph : psi k m + 400 ≤ 900000)
    {s hi p e kk o' : Nat} {nx : Option Nat} (hg : g (181 + 2 * q) = some s) (hK : stK S pool (stL S pool kk false 0) true o s nx hi p e o') (he : ¬ dgP (pool e)) {fl : Int} (hfr : InR fl) (hfl : ¬ fl = 0) (hD : doesInR pool (clT G l r b pool S h0) (shS G l r b pool S h0 61) m q p fl m1) :
    m1 = m ∧ GOES G l r k h (fun k' h' => k' = k + 1 ∧ isR h' r (q : Int) 1 f (updI (updI c (495 + 9 * q) fl) (489 + 9 * q) 2) C nm g ∧ Same (rBlk r) h h') := by
  obtain ⟨hI, hsc, hnc, hns⟩ := id hM
  have hok := hI.1
  have k0 := hok.2.1
  have k1 := hok.2.2.1
  have k2 := hok.2.2.2.1
  have k3 := hok.2.2.2.2.1
  obtain ⟨n0, T, A, K, L, ⟨Z, e0⟩, F0, Gg, hc, hCC⟩ := id hC
  obtain ⟨a1, a2, a3, a4, a5, a6, ⟨n, a7, a8⟩, a9, a10⟩ := id (hT.2 q hq).1
  obtain rfl : n = o + 1 := by omega
  have top := a8.2.1 o (by omega)
  have co := cnt_r (openB m) (m 0).toNat
  have cc := hnc.cnt k1.1
  have hkk : k < 1000000 := by unfold psi phi at hph; omega
  have hq10 : q < 10 := by omega
  have hqc : (q : Int) < c 2 := by rw [n0.2.2.1]; exact hq
  have hst : c (489 + 9 * q) = 0 := by rw [(K q hq).1]; exact hrd
  have hSR : SR m := fun a ha => (hsc.2.2 a ha).1
  have hSg : ∀ a o, S a = some o → hGet h a = some o := fun a o ha => (hSm.2.2.2 a (hSr a (by rw [ha]; exact fun q => by cases q))).trans (hS a o ha)
  have hob : ∀ {a kd num vl : _} {y : Int64} {inn nx : Option Nat}, S a = some (stO kd num vl y inn nx) → ¬ rBlk r a := fun ha => hSr _ (by rw [ha]; exact fun q => by cases q)
  obtain ⟨-, -, -, n, n60, nn, E⟩ := hD
  obtain rfl : n = o + 1 := by omega
  have etop : m (1619 + 72 * q + (o + 1)) = m (1620 + 72 * q + o) := by congr 1; omega
  rw [etop] at E
  rcases hK with ⟨hQ, rfl⟩ | ⟨-, -, hp, -, rfl, num, vl, y, inn, hs⟩ | ⟨-, -, hp, -, ho, num, vl, y, inn, hs⟩
  · have hpk : ¬ pool p = 40 ∧ ¬ pool p = 41 := by
      rcases hQ with ⟨-, num, vl, y, inn, -, w⟩ | ⟨-, w, -⟩
      · rcases w with w | w | w | w | w | w | w
        all_goals (have := w.1; constructor <;> omega)
      · constructor <;> omega
    rcases E with ⟨x, -⟩ | ⟨x, -⟩ | ⟨-, -, E⟩
    · exact absurd x hpk.1
    · exact absurd x hpk.2
    have em := pf_same hfl E
    obtain ⟨kd, num, vl, y, inn, hs⟩ : ∃ kd num vl y inn, S s = some (stO kd num vl y inn nx) := by
      rcases hQ with ⟨-, num, vl, y, inn, hs, -⟩ | ⟨-, w, -, -, q, b', y, nx2, hs, -⟩
      · exact ⟨_, _, _, _, _, hs⟩
      · exact ⟨_, _, _, _, _, hs⟩
    have Pq := pfm_Q (G := G) (l := l) hPo hR hSg hSr ⟨by decide, by decide⟩ hC hI hSR hQ he (hc (494 + 9 * q)) (by rw [h494]; exact E)
    refine ⟨em, go_task (k := k) hR ⟨by omega, by omega⟩ hkk hq10 hf ((cr_taskFault (G := G) (l := l) 5 hR hc hqc hq10 hst hg (hSg s _ hs) (hob hs) hfr hfl (Pq.mono (fun v h' w => ?_))).deeper (by decide))⟩
    obtain ⟨w1, ⟨-, -, w2⟩ | ⟨w2, -⟩⟩ := w
    · exact ⟨w1, w2⟩
    · exact absurd w2 hfl
  · rcases E with ⟨-, E⟩ | ⟨w, -⟩ | ⟨w, -⟩
    · have hsh := hSg s _ hs
      have hsr := hob hs
      have eN : m 0 = (((m 0).toNat : Nat) : Int) := by omega
      have Pq : RUNM G l 6 mX3_perform [.ref r, .ref s, .int (J (c (494 + 9 * q)))] h (fun v h' => (60 ≤ (m 0).toNat ∧ v = some (.int (J 107)) ∧ h' = h) ∨ ((m 0).toNat < 60 ∧ ¬ opP c (c (494 + 9 * q)) ∧ v = some (.int (J 101)) ∧ h' = h) ∨ ((m 0).toNat < 60 ∧ opP c (c (494 + 9 * q)) ∧ v = some (.int (J 0)) ∧ isR h' r (q : Int) 1 f (oiC c (m 0).toNat Z q) (updC C 2 (updI (C 2) Z (100 + (((m 0).toNat : Nat) : Int)))) nm g ∧ Same (rBlk r) h h')) :=
        pf_plain (G := G) (l := l) 6 hsh (by decide) ⟨by decide, by decide⟩ (pf_open (G := G) (l := l) 3 hR hc hsh rfl (by rw [n0.2.1]; exact eN) (by omega) e0.1 (by have := e0.2.1; omega) rfl hqc hq10)
      have iff := op_iff n0.2.1 k0.2 A hSR (i := c (494 + 9 * q))
      rw [h494] at iff
      have em : m1 = m := by
        rcases E with ⟨-, -, w⟩ | ⟨-, -, -, w⟩ | ⟨-, -, w, -⟩
        · exact w
        · exact w
        · exact absurd w hfl
      refine ⟨em, go_task (k := k) hR ⟨by omega, by omega⟩ hkk hq10 hf ((cr_taskFault (G := G) (l := l) 5 hR hc hqc hq10 hst hg hsh hsr hfr hfl (Pq.mono (fun v h' w => ?_))).deeper (by decide))⟩
      rw [h494] at w
      rcases E with ⟨x1, rfl, -⟩ | ⟨x1, x2, rfl, -⟩ | ⟨-, -, x, -⟩
      · rcases w with ⟨-, w⟩ | ⟨w, -⟩ | ⟨w, -⟩
        · exact w
        · omega
        · omega
      · rcases w with ⟨w, -⟩ | ⟨-, -, w⟩ | ⟨-, w, -⟩
        · omega
        · exact w
        · exact absurd (iff.mp w) x2
      · exact absurd x hfl
    · omega
    · exact absurd hp w
  · rcases E with ⟨w, -⟩ | ⟨-, w, -⟩ | ⟨-, w, -⟩
    · omega
    · exact absurd w hfl
    · exact absurd hp w
end TF
end mg_b0

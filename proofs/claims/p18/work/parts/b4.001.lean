section mg_b4
section TI
variable {G : mG} {l : Launch} {r : Nat} {pool : Nat → Int} {S : Nat → Option mO} {h0 : mH}
theorem sim_turn (hS : ∀ a o, S a = some o → hGet h0 a = some o) (hSr : ∀ a, ¬ S a = none → ¬ rBlk r a) (hPo : poolOk pool) {m m' : Nat → Int} {B : Int} {q : Nat} {b0 : Int} {f c : Nat → Int} {C : Nat → Nat → Int} {nm : Nat → Int64} {g : Nat → Option Nat} {h : mH} (hM : Mid m pool B) (hT : TkM m pool 99) (h7 : m 7 ≤ 1000000000) (hq : (q : Int) < m 3) (hrd : m (1610 + 72 * q) = 0) (hnx : nextV m = q)
    (hK : TKR m pool c S g 99) (hR : isR h r b0 0 f c C nm g) (hSm : Same (rBlk r) h0 h) (hC : CR m pool S c C nm g) (hM' : mOk m' ∧ NC m') (hU : turnI pool (clT G l r (q : Int) pool S h0) (shS G l r (q : Int) pool S h0 61) m q m') :
    ∃ R1 : mH → Prop, RUNM G l 12 mX3_beginTurn [.ref r] h (fun v h' => v = some (.int (J (nextV m))) ∧ R1 h') ∧ (∀ h', R1 h' → isO3 h' r) ∧ ∀ h', R1 h' → WK G l 12 r h' (BES r pool S h0 (q : Int) (c 4) m') := by
  obtain ⟨hMM, k0, k1, k2, k3, k4, k5, k7⟩ := id hM.1.1
  have hok := hM.1.1
  obtain ⟨a1, a2, a3, a4, a5, a6, ⟨n, a7, a8⟩, ⟨p0, a9, a9b⟩, P0, E0, a10⟩ := id (hT.2 q hq).1
  obtain ⟨kA, kC⟩ := hK.2 q hq
  obtain ⟨n0, T, A, K, L, ⟨Z, e0⟩, F0, Gg, hc, hCC⟩ := id hC
  obtain ⟨h18, o, p, E, r1, r2, r3, r4, rs⟩ := kC (by omega) hrd
  obtain rfl : n = o + 1 := by omega
  have top := a8.2.1 o (by omega)
  obtain ⟨u, eu⟩ : ∃ u : Nat, m (1620 + 72 * q + o) = u := ⟨(m (1620 + 72 * q + o)).toNat, by omega⟩
  rw [eu] at top
  have t7 := hT.1
  have e : ∀ j, ¬ j = 7 → ¬ j = 1612 + 72 * q → ¬ j = 1613 + 72 * q → turnM m q j = m j := fun j a b c => by unfold turnM; rw [updI_n c, updI_n b, updI_n a]
  have e7 : turnM m q 7 = m 7 + 1 := by unfold turnM; rw [updI_n (by omega), updI_n (by omega), updI_s]
  have e2 : turnM m q (1612 + 72 * q) = m (1612 + 72 * q) + 1 := by unfold turnM; rw [updI_n (by omega), updI_s]
  have e3 : turnM m q (1613 + 72 * q) = m 7 + 1 := by unfold turnM; rw [updI_s]
  have hm : Mid (turnM m q) pool B := ((hM.out (k := 7) (v := m 7 + 1) ⟨by omega, by omega⟩ (Or.inl rfl)).out (k := 1612 + 72 * q) (v := m (1612 + 72 * q) + 1) ⟨by omega, by omega⟩ (by omega)).out (k := 1613 + 72 * q) (v := m 7 + 1) ⟨by omega, by omega⟩ (by omega)
  have hT2 : TkM (turnM m q) pool q := (hT.weak k3.2 : TkM m pool q).step (e 3 (by omega) (by omega) (by omega)) (e 0 (by omega) (by omega) (by omega)) k0.2 k3.2 (by omega) (by rw [e 8 (by omega) (by omega) (by omega)]; exact Int.le_refl _) (fun c _ hc => e _ (by omega) (by omega) (by omega)) (fun u hu hu9 => ⟨fun q a b c => e q (by omega) (by omega) (by omega), Or.inl (e _ (by omega) (by omega) (by omega))⟩) (fun _ => by
    unfold tkB
    rw [e7, e2, e3, e 8 (by omega) (by omega) (by omega), e _ (by omega) (by omega) (by omega), e _ (by omega) (by omega) (by omega), e _ (by omega) (by omega) (by omega), e _ (by omega) (by omega) (by omega), e _ (by omega) (by omega) (by omega), e _ (by omega) (by omega) (by omega), e _ (by omega) (by omega) (by omega), e _ (by omega) (by omega) (by omega), e _ (by omega) (by omega) (by omega), e _ (by omega) (by omega) (by omega)]
    refine ⟨a1, a2, a3, ⟨⟨by omega, by omega⟩, ⟨by omega, Int.le_refl _⟩⟩, a5, a6, ⟨o + 1, a7, a8.1, fun k hk => ?_, fun k hk => ?_⟩, ⟨p0, a9, a9b⟩, P0, E0, a10⟩
    · rw [e _ (by omega) (by omega) (by omega), e 0 (by omega) (by omega) (by omega)]; exact a8.2.1 k hk
    · have z1 := a8.2.1 (k + 1) hk
      rw [e (1620 + 72 * q + (k + 1)) (by omega) (by omega) (by omega), e (1620 + 72 * q + k) (by omega) (by omega) (by omega), e _ (by omega) (by omega) (by omega)]; exact a8.2.2 k hk)
  have bt : ∀ j, ¬ j = 3 → ¬ j = 491 + 9 * q → ¬ j = 492 + 9 * q → btC c q j = c j := fun j a b d => btC_o ⟨a, b, d⟩
  have b3 : btC c q 3 = c 3 + 1 := by unfold btC; rw [updI_n (by omega), updI_n (by omega), updI_s]
  have b491 : btC c q (491 + 9 * q) = c (491 + 9 * q) + 1 := by unfold btC; rw [updI_n (by omega), updI_s]
  have b492 : btC c q (492 + 9 * q) = c 3 + 1 := by unfold btC; rw [updI_s]
  have c3 := hK.1
  have i3 : InR (c 3 + 1) := by rw [c3]; exact ⟨by omega, by omega⟩
  have i491 : InR (c (491 + 9 * q) + 1) := by rw [kA.2.2.1]; exact ⟨by omega, by omega⟩
  have y : CR (turnM m q) pool S (btC c q) C nm g := hC.see hok (Int.le_refl _) (fun j hj => e j (by rcases hj with w | w | w | ⟨t, w | w⟩ <;> omega) (by rcases hj with w | w | w | ⟨t, w | w⟩ <;> omega) (by rcases hj with w | w | w | ⟨t, w | w⟩ <;> omega)) (fun j hj => bt j (by rcases hj with w | w | w | w | w | ⟨t, w | w⟩ <;> omega) (by rcases hj with w | w | w | w | w | ⟨t, w | w⟩ <;> omega) (by rcases hj with w | w | w | w | w | ⟨t, w | w⟩ <;> omega)) (fun j => by
    by_cases w : j = 492 + 9 * q
    · subst w; rw [b492]; exact i3
    · by_cases w2 : j = 491 + 9 * q
      · subst w2; rw [b491]; exact i491
      · by_cases w3 : j = 3
        · subst w3; rw [b3]; exact i3
        · rw [bt j w3 w2 w]; exact hc j) (fun _ _ => rfl)
  have hKq : TKR m pool c S g q := ⟨hK.1, fun u hu => ⟨(hK.2 u hu).1, fun _ => (hK.2 u hu).2 (by omega)⟩⟩
  have K2 : TKR (turnM m q) pool (btC c q) S g q := by
    refine hKq.ch k3.2 hT.nn (e 3 (by omega) (by omega) (by omega)) (by rw [b3, e7, c3]) (fun j a b d w => e j (by omega) (by omega) (by omega)) (fun j a b w => bt j (by omega) (by omega) (by omega)) (fun _ _ _ => rfl) (fun _ => ?_)
    obtain ⟨d1, d2, d3, d4, d5, d6, b7, b8, b9, P', E', b10, b11, b12, b13⟩ := kA
    refine ⟨?_, ?_, ?_, ?_, ?_, ?_, b7, b8, b9, P', E', ?_, ?_, b12, b13⟩
    · rw [bt _ (by omega) (by omega) (by omega), e _ (by omega) (by omega) (by omega)]; exact d1
    · rw [bt _ (by omega) (by omega) (by omega), e _ (by omega) (by omega) (by omega)]; exact d2
    · rw [b491, e2, d3]
    · rw [b492, e3, c3]
    · rw [bt _ (by omega) (by omega) (by omega), e _ (by omega) (by omega) (by omega)]; exact d5
    · rw [bt _ (by omega) (by omega) (by omega), e _ (by omega) (by omega) (by omega)]; exact d6
    · rw [e _ (by omega) (by omega) (by omega)]; exact b10
    · rw [e _ (by omega) (by omega) (by omega)]; exact b11
  have q19 : turnM m q (1619 + 72 * q) = (o : Int) + 1 := by rw [e _ (by omega) (by omega) (by omega)]; exact r1
  have q494 : btC c q (494 + 9 * q) = turnM m q (1620 + 72 * q + o) := by rw [bt _ (by omega) (by omega) (by omega), e _ (by omega) (by omega) (by omega)]; exact r4
  have stk : stkOk (turnM m q) q (o + 1) := by
    obtain ⟨-, -, -, -, -, -, ⟨n', a7', a8'⟩, -⟩ := (hT2.2 q (by rw [e 3 (by omega) (by omega) (by omega)]; exact hq)).1
    obtain rfl : n' = o + 1 := by omega
    exact a8'
  have fi := fine_iff hm.2.1 hm.2.2.2 hm.1.1.2.1.2 (t := q) (o := o) (u := u) q19 stk (by rw [e _ (by omega) (by omega) (by omega)]; exact eu)
  rw [e _ (by omega) (by omega) (by omega), e _ (by omega) (by omega) (by omega)] at fi
  have sru := (hM.2.1.2.2 u top.2).1
  have fi2 : (c (496 + 9 * q) = 0 ∧ c (304 + 3 * u) = 0) ↔ fineV (turnM m q) (q : Int) = true := by
    rw [fi, (K q hq).2, (A u top.2).1, swT_0 sru]
  have p0' := psi_0 hm.1.1 hm.2.2.1
  have he : rpL c (m 3).toNat 0 (m 3).toNat 0 = (q : Int) := by rw [next_eq K hK (K := (m 3).toNat) (by omega) (by omega)]; exact hnx
  have hN3 : c 2 = (((m 3).toNat : Nat) : Int) := by rw [n0.2.2.1]; omega
  have h494 : c (494 + 9 * q) = (u : Int) := by rw [r4, eu]
  -- from the end of the turn
  have out : ∀ {h1 : mH} {ps : Int} {cc : Nat → Int}, cc 4 = c 4 → ps ≤ 900000 → GOES G l r 0 h1 (TNE r pool S h0 (q : Int) cc m' ps) → WK G l 12 r h1 (BES r pool S h0 (q : Int) (c 4) m') := fun {h1 ps cc} z1 z2 go => go_wk go (fun k' h' w => by
    obtain ⟨f', c', C', nm', g', x1, x2, x3, x4, x5, x6⟩ := w
    exact ⟨psi_k hM'.1 hM'.2 x6 (by omega), _, _, _, _, _, _, x1, fun h'' y1 y2 => ⟨f', c', C', nm', g', y1, x2.trans y2, x3, x4, x5.trans z1⟩⟩)
  obtain ⟨-, -, -, hU⟩ := hU
  by_cases fv : fineV (turnM m q) (q : Int) = true
  · rcases hU with ⟨w, -⟩ | ⟨-, p', E', kf, w1, w2, w3, w4, hL⟩
    · rw [fv] at w; cases w
    obtain rfl : p' = p := by omega
    obtain rfl : E' = E := by omega
    obtain ⟨o2, P, E2, p2, s1, s2, s3, s4, s5, s6, -⟩ := (hT.2 q hq).2 (by omega) hrd
    have Pb := cr_turnFine (G := G) (l := l) 8 hR hc ⟨by decide, by decide⟩ hN3 (by omega) (by rw [n0.2.2.1]; exact hq) (by omega) he h494 (by rw [n0.2.1]; exact top.2) (by omega) i3 i491 (fi2.mpr fv)
    refine ⟨fun h' => isR h' r (q : Int) (0 + 1) (updI f (0 : Int).toNat (200 + (q : Int))) (btC c q) C nm g ∧ Same (rBlk r) h h', by rw [hnx]; exact Pb, fun h' w => w.1.o3, fun h' w => ?_⟩
    have b16 := a10.1
    have b17 := a10.2.1
    have b18 := a10.2.2.2.2.1
    have hPE : E' ≤ P + 120 := by omega
    refine out (bt 4 (by omega) (by omega) (by omega)) ?_ (sim_tloop hS hSr hPo hPE kf (turnM m q) m' 0 _ _ C nm g h' o p' ⟨B, hm⟩ hT2 (by rw [e 3 (by omega) (by omega) (by omega)]; exact hq) (by rw [e _ (by omega) (by omega) (by omega)]; exact hrd) (by rw [e _ (by omega) (by omega) (by omega)]; exact h18) q19 (by rw [e _ (by omega) (by omega) (by omega)]; exact s2) (by rw [e _ (by omega) (by omega) (by omega)]; exact w1) (by omega) (by rw [e _ (by omega) (by omega) (by omega)]; omega) K2 rs q494 w.1 updI_s (hSm.trans w.2) y ?_ hL)
    · omega
    · omega
  · rcases hU with ⟨-, hO⟩ | ⟨w, -⟩
    · have Pb := cr_turnNot (G := G) (l := l) 8 hR hc ⟨by decide, by decide⟩ hN3 (by omega) (by rw [n0.2.2.1]; exact hq) (by omega) he h494 (by rw [n0.2.1]; exact top.2) (by omega) i3 i491 (fun z => fv (fi2.mp z))
      refine ⟨fun h' => isR h' r (q : Int) (0 + 1) (updI f (0 : Int).toNat (200 + (q : Int))) (updI (btC c q) (489 + 9 * q) 3) C nm g ∧ Same (rBlk r) h h', by rw [hnx]; exact Pb, fun h' w => w.1.o3, fun h' w => ?_⟩
      exact out (bt 4 (by omega) (by omega) (by omega)) (by omega) (sim_ends hm hT2 (by rw [e 3 (by omega) (by omega) (by omega)]; exact hq) K2 (by decide) w.1 updI_s (hSm.trans w.2) y q494 q19 (by omega) hO)
    · exact absurd w fv
end TI
end mg_b4

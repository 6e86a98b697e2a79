section mg_b4
/-! ===== a turn, a tick: both sides ===== -/
theorem go_wk {G : mG} {l : Launch} {r : Nat} {h : mH} {T : Nat → mH → Prop} {R : mH → Prop} (go : GOES G l r 0 h T) (f : ∀ k' h', T k' h' → k' < 1000000 ∧ ∃ b f c C nm g, isR h' r b 0 f c C nm g ∧ ∀ h'', isR h'' r b 0 f c C nm g → Same (rBlk r) h' h'' → R h'') : WK G l 12 r h R := by
  refine WK.of (go (fun v h' => v = none ∧ R h') (fun k' h' t o => ?_) none)
  obtain ⟨hk, b, f', c, C, nm, g, hR, k⟩ := f k' h' t
  exact (wk_end (G := G) (l := l) 12 hR hk).mono (fun v h'' w => ⟨w.1, k h'' w.2.1 w.2.2⟩)
theorem psi_k {m : Nat → Int} {k : Nat} {x : Int} (hok : mOk m) (hnc : NC m) (h : psi k m ≤ x) (hx : x ≤ 990000) : k < 1000000 := by
  have co := cnt_r (openB m) (m 0).toNat
  have cc := hnc.cnt hok.2.2.1.1
  have k2 := hok.2.2.2.1
  unfold psi phi at h
  omega
theorem psi_0 {m : Nat → Int} (hok : mOk m) (hnc : NC m) : psi 0 m ≤ 60000 := by
  have co := cnt_r (openB m) (m 0).toNat
  have cc := hnc.cnt hok.2.2.1.1
  have k2 := hok.2.2.2.1
  have k0 := hok.2.1
  unfold psi phi
  omega
theorem nextV_w {m : Nat → Int} (h : 0 ≤ nextV m) (h3 : 0 ≤ m 3) : ∃ q : Nat, nextV m = q ∧ (q : Int) < m 3 ∧ m (1610 + 72 * q) = 0 := by
  unfold nextV at h ⊢
  rcases nx_n (m := m) (m 3).toNat 0 with ⟨e, -⟩ | ⟨w, e, ⟨-, w1, w2⟩, -⟩
  · omega
  · exact ⟨w, e, by omega, of_decide_eq_true w2⟩
section TI
variable {G : mG} {l : Launch} {r : Nat} {pool : Nat → Int} {S : Nat → Option mO} {h0 : mH}
/-- the class between calls, beside the reference's row -/
def BES (r : Nat) (pool : Nat → Int) (S : Nat → Option mO) (h0 : mH) (b : Int) (c4 : Int) (m : Nat → Int) (h : mH) : Prop :=
  ∃ f c C nm g, isR h r b 0 f c C nm g ∧ Same (rBlk r) h0 h ∧ CR m pool S c C nm g ∧ TKR m pool c S g 99 ∧ c 4 = c4
theorem sim_turn (hS : ∀ a o, S a = some o → hGet h0 a = some o) (hSr : ∀ a, ¬ S a = none → ¬ rBlk r a) (hPo : poolOk pool) {m m' : Nat → Int} {B : Int} {q : Nat} {b0 : Int} {f c : Nat → Int} {C : Nat → Nat → Int} {nm : Nat → Int64} {g : Nat → Option Nat} {h : mH} (hM : Mid m pool B) (hT : TkM m pool 99) (h7 : m 7 ≤ 1000000000) (hq : (q : Int) < m 3) (hrd : m (1610 + 72 * q) = 0) (hnx : nextV m = q)
    (hK : TKR m pool c S g 99) (hR : isR h r b0 0 f c C nm g) (hSm : Same (rBlk r) h0 h) (hC : CR m pool S c C nm g) (hM' : mOk m' ∧ NC m') (hU : turnI pool (clT G l r (q : Int) pool S h0) (shS G l r (q : Int) pool S h0 61) m q m') :
    ∃ R1 : mH → Prop, RUNM G l 12 mX3_beginTurn [.ref r] h (fun v h' => v = some (.int (J (nextV m))) ∧ R1 h') ∧ (∀ h', R1 h' → isO3 h' r) ∧ ∀ h', R1 h' → WK G l 12 r h' (BES r pool S h0 (q : Int) (c 4) m') := by
  obtain ⟨hMM, k0, k1, k2, k3, k4, k5, k7⟩ := id hM.1.1
  have hok := hM.1.1
  obtain ⟨a1, a2, a3, a4, a5, a6, ⟨n, a7, a8⟩, ⟨p0, a9, a9b⟩, P0, E0, a10⟩ := id (hT.2 q hq).1
  obtain ⟨kA, kC⟩ := hK.2 q hq
  obtain ⟨n0, T, A, K, L, ⟨Z, e0⟩, F0, Gg, hc, hCC⟩ := id hC
  obtain ⟨h18, o, p, E, r1, r2, r3, r4, rs⟩ := kC (by omega) hrd
  obtain rfl : n = o + 1 := by omega
  have top := a8.2.1 o (by omega)
  obtain ⟨u, eu⟩ : ∃ u : Nat, m (1620 + 72 * q + o) = u := ⟨(m (1620 + 72 * q + o)).toNat, by omega⟩
  rw [eu] at top
  have t7 := hT.1
  have e : ∀ j, ¬ j = 7 → ¬ j = 1612 + 72 * q → ¬ j = 1613 + 72 * q → turnM m q j = m j := fun j a b c => by unfold turnM; rw [updI_n c, updI_n b, updI_n a]
  have e7 : turnM m q 7 = m 7 + 1 := by unfold turnM; rw [updI_n (by omega), updI_n (by omega), updI_s]
  have e2 : turnM m q (1612 + 72 * q) = m (1612 + 72 * q) + 1 := by unfold turnM; rw [updI_n (by omega), updI_s]
  have e3 : turnM m q (1613 + 72 * q) = m 7 + 1 := by unfold turnM; rw [updI_s]
  have hm : Mid (turnM m q) pool B := ((hM.out (k := 7) (v := m 7 + 1) ⟨by omega, by omega⟩ (Or.inl rfl)).out (k := 1612 + 72 * q) (v := m (1612 + 72 * q) + 1) ⟨by omega, by omega⟩ (by omega)).out (k := 1613 + 72 * q) (v := m 7 + 1) ⟨by omega, by omega⟩ (by omega)
  have hT2 : TkM (turnM m q) pool q := (hT.weak k3.2 : TkM m pool q).step (e 3 (by omega) (by omega) (by omega)) (e 0 (by omega) (by omega) (by omega)) k0.2 k3.2 (by omega) (by rw [e 8 (by omega) (by omega) (by omega)]; exact Int.le_refl _) (fun c _ hc => e _ (by omega) (by omega) (by omega)) (fun u hu hu9 => ⟨fun q a b c => e q (by omega) (by omega) (by omega), Or.inl (e _ (by omega) (by omega) (by omega))⟩) (fun _ => by
    unfold tkB
    rw [e7, e2, e3, e 8 (by omega) (by omega) (by omega), e _ (by omega) (by omega) (by omega), e _ (by omega) (by omega) (by omega), e _ (by omega) (by omega) (by omega), e _ (by omega) (by omega) (by omega), e _ (by omega) (by omega) (by omega), e _ (by omega) (by omega) (by omega), e _ (by omega) (by omega) (by omega), e _ (by omega) (by omega) (by omega), e _ (by omega) (by omega) (by omega), e _ (by omega) (by omega) (by omega)]
    refine ⟨a1, a2, a3, ⟨⟨by omega, by omega⟩, ⟨by omega, Int.le_refl _⟩⟩, a5, a6, ⟨o + 1, a7, a8.1, fun k hk => ?_, fun k hk => ?_⟩, ⟨p0, a9, a9b⟩, P0, E0, a10⟩
    · rw [e _ (by omega) (by omega) (by omega), e 0 (by omega) (by omega) (by omega)]; exact a8.2.1 k hk
    · have z1 := a8.2.1 (k + 1) hk
      rw [e (1620 + 72 * q + (k + 1)) (by omega) (by omega) (by omega), e (1620 + 72 * q + k) (by omega) (by omega) (by omega), e _ (by omega) (by omega) (by omega)]; exact a8.2.2 k hk)
  have bt : ∀ j, ¬ j = 3 → ¬ j = 491 + 9 * q → ¬ j = 492 + 9 * q → btC c q j = c j := fun j a b d => btC_o ⟨a, b, d⟩
  have b3 : btC c q 3 = c 3 + 1 := by unfold btC; rw [updI_n (by omega), updI_n (by omega), updI_s]
  have b491 : btC c q (491 + 9 * q) = c (491 + 9 * q) + 1 := by unfold btC; rw [updI_n (by omega), updI_s]
  have b492 : btC c q (492 + 9 * q) = c 3 + 1 := by unfold btC; rw [updI_s]
  have c3 := hK.1
  have i3 : InR (c 3 + 1) := by rw [c3]; exact ⟨by omega, by omega⟩
  have i491 : InR (c (491 + 9 * q) + 1) := by rw [kA.2.2.1]; exact ⟨by omega, by omega⟩
  have y : CR (turnM m q) pool S (btC c q) C nm g := hC.see hok (Int.le_refl _) (fun j hj => e j (by rcases hj with w | w | w | ⟨t, w | w⟩ <;> omega) (by rcases hj with w | w | w | ⟨t, w | w⟩ <;> omega) (by rcases hj with w | w | w | ⟨t, w | w⟩ <;> omega)) (fun j hj => bt j (by rcases hj with w | w | w | w | w | ⟨t, w | w⟩ <;> omega) (by rcases hj with w | w | w | w | w | ⟨t, w | w⟩ <;> omega) (by rcases hj with w | w | w | w | w | ⟨t, w | w⟩ <;> omega)) (fun j => by
    by_cases w : j = 492 + 9 * q
    · subst w; rw [b492]; exact i3
    · by_cases w2 : j = 491 + 9 * q
      · subst w2; rw [b491]; exact i491
      · by_cases w3 : j = 3
        · subst w3; rw [b3]; exact i3
        · rw [bt j w3 w2 w]; exact hc j) (fun _ _ => rfl)
  have hKq : TKR m pool c S g q := ⟨hK.1, fun u hu => ⟨(hK.2 u hu).1, fun _ => (hK.2 u hu).2 (by omega)⟩⟩
  have K2 : TKR (turnM m q) pool (btC c q) S g q := by
    refine hKq.ch k3.2 hT.nn (e 3 (by omega) (by omega) (by omega)) (by rw [b3, e7, c3]) (fun j a b d w => e j (by omega) (by omega) (by omega)) (fun j a b w => bt j (by omega) (by omega) (by omega)) (fun _ _ _ => rfl) (fun _ => ?_)
    obtain ⟨d1, d2, d3, d4, d5, d6, b7, b8, b9, P', E', b10, b11, b12, b13⟩ := kA
    refine ⟨?_, ?_, ?_, ?_, ?_, ?_, b7, b8, b9, P', E', ?_, ?_, b12, b13⟩
    · rw [bt _ (by omega) (by omega) (by omega), e _ (by omega) (by omega) (by omega)]; exact d1
    · rw [bt _ (by omega) (by omega) (by omega), e _ (by omega) (by omega) (by omega)]; exact d2
    · rw [b491, e2, d3]
    · rw [b492, e3, c3]
    · rw [bt _ (by omega) (by omega) (by omega), e _ (by omega) (by omega) (by omega)]; exact d5
    · rw [bt _ (by omega) (by omega) (by omega), e _ (by omega) (by omega) (by omega)]; exact d6
    · rw [e _ (by omega) (by omega) (by omega)]; exact b10
    · rw [e _ (by omega) (by omega) (by omega)]; exact b11
  have q19 : turnM m q (1619 + 72 * q) = (o : Int) + 1 := by rw [e _ (by omega) (by omega) (by omega)]; exact r1
  have q494 : btC c q (494 + 9 * q) = turnM m q (1620 + 72 * q + o) := by rw [bt _ (by omega) (by omega) (by omega), e _ (by omega) (by omega) (by omega)]; exact r4
  have stk : stkOk (turnM m q) q (o + 1) := by
    obtain ⟨-, -, -, -, -, -, ⟨n', a7', a8'⟩, -⟩ := (hT2.2 q (by rw [e 3 (by omega) (by omega) (by omega)]; exact hq)).1
    obtain rfl : n' = o + 1 := by omega
    exact a8'
  have fi := fine_iff hm.2.1 hm.2.2.2 hm.1.1.2.1.2 (t := q) (o := o) (u := u) q19 stk (by rw [e _ (by omega) (by omega) (by omega)]; exact eu)
  rw [e _ (by omega) (by omega) (by omega), e _ (by omega) (by omega) (by omega)] at fi
  have sru := (hM.2.1.2.2 u top.2).1
  have fi2 : (c (496 + 9 * q) = 0 ∧ c (304 + 3 * u) = 0) ↔ fineV (turnM m q) (q : Int) = true := by
    rw [fi, (K q hq).2, (A u top.2).1, swT_0 sru]
  have p0' := psi_0 hm.1.1 hm.2.2.1
  have he : rpL c (m 3).toNat 0 (m 3).toNat 0 = (q : Int) := by rw [next_eq K hK (K := (m 3).toNat) (by omega) (by omega)]; exact hnx
  have hN3 : c 2 = (((m 3).toNat : Nat) : Int) := by rw [n0.2.2.1]; omega
  have h494 : c (494 + 9 * q) = (u : Int) := by rw [r4, eu]
  -- from the end of the turn
  have out : ∀ {h1 : mH} {ps : Int} {cc : Nat → Int}, cc 4 = c 4 → ps ≤ 900000 → GOES G l r 0 h1 (TNE r pool S h0 (q : Int) cc m' ps) → WK G l 12 r h1 (BES r pool S h0 (q : Int) (c 4) m') := fun {h1 ps cc} z1 z2 go => go_wk go (fun k' h' w => by
    obtain ⟨f', c', C', nm', g', x1, x2, x3, x4, x5, x6⟩ := w
    exact ⟨psi_k hM'.1 hM'.2 x6 (by omega), _, _, _, _, _, _, x1, fun h'' y1 y2 => ⟨f', c', C', nm', g', y1, x2.trans y2, x3, x4, x5.trans z1⟩⟩)
  obtain ⟨-, -, -, hU⟩ := hU
  by_cases fv : fineV (turnM m q) (q : Int) = true
  · rcases hU with ⟨w, -⟩ | ⟨-, p', E', kf, w1, w2, w3, w4, hL⟩
    · rw [fv] at w; cases w
    obtain rfl : p' = p := by omega
    obtain rfl : E' = E := by omega
    obtain ⟨o2, P, E2, p2, s1, s2, s3, s4, s5, s6, -⟩ := (hT.2 q hq).2 (by omega) hrd
    have Pb := cr_turnFine (G := G) (l := l) 8 hR hc ⟨by decide, by decide⟩ hN3 (by omega) (by rw [n0.2.2.1]; exact hq) (by omega) he h494 (by rw [n0.2.1]; exact top.2) (by omega) i3 i491 (fi2.mpr fv)
    refine ⟨fun h' => isR h' r (q : Int) (0 + 1) (updI f (0 : Int).toNat (200 + (q : Int))) (btC c q) C nm g ∧ Same (rBlk r) h h', by rw [hnx]; exact Pb, fun h' w => w.1.o3, fun h' w => ?_⟩
    have b16 := a10.1
    have b17 := a10.2.1
    have b18 := a10.2.2.2.2.1
    have hPE : E' ≤ P + 120 := by omega
    refine out (bt 4 (by omega) (by omega) (by omega)) ?_ (sim_tloop hS hSr hPo hPE kf (turnM m q) m' 0 _ _ C nm g h' o p' ⟨B, hm⟩ hT2 (by rw [e 3 (by omega) (by omega) (by omega)]; exact hq) (by rw [e _ (by omega) (by omega) (by omega)]; exact hrd) (by rw [e _ (by omega) (by omega) (by omega)]; exact h18) q19 (by rw [e _ (by omega) (by omega) (by omega)]; exact s2) (by rw [e _ (by omega) (by omega) (by omega)]; exact w1) (by omega) (by rw [e _ (by omega) (by omega) (by omega)]; omega) K2 rs q494 w.1 updI_s (hSm.trans w.2) y ?_ hL)
    · omega
    · omega
  · rcases hU with ⟨-, hO⟩ | ⟨w, -⟩
    · have Pb := cr_turnNot (G := G) (l := l) 8 hR hc ⟨by decide, by decide⟩ hN3 (by omega) (by rw [n0.2.2.1]; exact hq) (by omega) he h494 (by rw [n0.2.1]; exact top.2) (by omega) i3 i491 (fun z => fv (fi2.mp z))
      refine ⟨fun h' => isR h' r (q : Int) (0 + 1) (updI f (0 : Int).toNat (200 + (q : Int))) (updI (btC c q) (489 + 9 * q) 3) C nm g ∧ Same (rBlk r) h h', by rw [hnx]; exact Pb, fun h' w => w.1.o3, fun h' w => ?_⟩
      exact out (bt 4 (by omega) (by omega) (by omega)) (by omega) (sim_ends hm hT2 (by rw [e 3 (by omega) (by omega) (by omega)]; exact hq) K2 (by decide) w.1 updI_s (hSm.trans w.2) y q494 q19 (by omega) hO)
    · exact absurd w fv
/-- a tick, on both sides -/
theorem sim_tick (hS : ∀ a o, S a = some o → hGet h0 a = some o) (hSr : ∀ a, ¬ S a = none → ¬ rBlk r a) (hPo : poolOk pool) {m : Nat → Int} {B : Int} (hM : Mid m pool B) (hT : TkM m pool 99) (hB : B ≤ 1700000000) (h7 : m 7 ≤ 1000000000) :
    (nextV m = -5 ∧ tickR pool m m ∧ ∀ b0 c4 h, BES r pool S h0 b0 c4 m h → RUNM G l 12 mX3_beginTurn [.ref r] h (fun v h' => v = some (.int (J (-5))) ∧ h' = h)) ∨
    (∃ q : Nat, nextV m = q ∧ (q : Int) < m 3 ∧ ∃ m', tickR pool m m' ∧ Mid m' pool (B + 120) ∧ TkM m' pool 99 ∧ m' 3 = m 3 ∧ m' 7 = m 7 + 1 ∧ (m' 8 = m 8 ∧ m 1 ≤ m' 1) ∧ ∀ b0 c4 h, BES r pool S h0 b0 c4 m h →
      ∃ R1 : mH → Prop, RUNM G l 12 mX3_beginTurn [.ref r] h (fun v h' => v = some (.int (J (nextV m))) ∧ R1 h') ∧ (∀ h', R1 h' → isO3 h' r) ∧ ∀ h', R1 h' → WK G l 12 r h' (BES r pool S h0 (q : Int) c4 m')) := by
  have k3 := hM.1.1.2.2.2.2.1
  have hp : ∀ t : Nat, (t : Int) < m 3 → -99 ≤ m (1609 + 72 * t) ∧ m (1609 + 72 * t) ≤ 99 := fun t ht => (hT.2 t ht).1.1
  rcases nextV_r hM.1.1 with z | z
  · refine Or.inl ⟨z, ⟨hM.1.1, hp, Or.inl ⟨by omega, rfl⟩⟩, fun b0 c4 h hX => ?_⟩
    obtain ⟨f, c, C, nm, g, hR, hSm, hC, hK, h4⟩ := hX
    obtain ⟨n0, T, A, K, L, E, F0, Gg, hc, hCC⟩ := id hC
    refine cr_noTurn (G := G) (l := l) 8 hR hc (K := (m 3).toNat) (by rw [n0.2.2.1]; omega) (by omega) ?_
    rw [next_eq K hK (K := (m 3).toNat) (by omega) (by omega)]; exact z
  · obtain ⟨q, w1, w2, w3⟩ := nextV_w z.1 k3.1
    obtain ⟨m', t1, t2, t3, t4, t5, t6⟩ := turn_exI hPo (simT_all (G := G) (l := l) (b := (q : Int)) hS hSr ⟨by omega, by omega⟩ hPo) (simS_all (G := G) (l := l) (b := (q : Int)) hS hSr ⟨by omega, by omega⟩ hPo 61) w2 hM hT hB h7 w3
    refine Or.inr ⟨q, w1, w2, m', ⟨hM.1.1, hp, Or.inr ⟨by omega, ?_⟩⟩, t2, t3, t4, t5, t6, fun b0 c4 h hX => ?_⟩
    · rw [w1, show ((q : Int)).toNat = q by omega]
      exact turnI_mo (fun _ _ _ x => x.1.1) (fun _ _ _ x => x.1) t1
    · obtain ⟨f, c, C, nm, g, hR, hSm, hC, hK, h4⟩ := hX
      have := sim_turn hS hSr hPo hM hT h7 w2 w3 w1 hK hR hSm hC ⟨t2.1.1, t2.2.2.1⟩ t1
      rw [h4] at this
      exact this
end TI
end mg_b4
section mg_b5
/-! ===== what ends in a call: what follows as an existence ===== -/
set_option maxHeartbeats 4000000 in
set_option maxRecDepth 100000 in
theorem cr_endThingE {G : mG} {l : Launch} (d : Nat) {h : mH} {r : Nat} {b : Int} {f : Nat → Int} {c : Nat → Int} {C : Nat → Nat → Int} {nm : Nat → Int64} {g : Nat → Option Nat} (hR : isR h r b 0 f c C nm g) (hc : ∀ q, InR (c q)) (hr11 : InR (c 11)) {t : Nat} (ht : (t : Int) < c 0) (ht2 : t < 90) {X : (Nat → Int) → (Nat → Int) → (Nat → Nat → Int) → (Nat → Int64) → (Nat → Option Nat) → Prop} (P : ∀ h1, isR h1 r (-1) (0 + 1) (updI f (0 : Int).toNat (t : Int)) (updI (updI c 4 (c 11)) (32 + 3 * t) 2) C nm (btG g t) → Same (rBlk r) h h1 → WK G l (d + 3) r h1 (fun h' => ∃ f' c' C' nm' g', ∃ F : Nat, (isR h' r (-1) 0 f' c' C' nm' g' ∧ Same (rBlk r) h1 h') ∧ ((∀ q, InR (c' q)) ∧ c' 11 = (F : Int) ∧ c' 12 = (F : Int) ∧ c' 13 = (F : Int) ∧ F ≤ 90 ∧ (0 ≤ c' 4 ∧ c' 4 ≤ (F : Int)) ∧ ∀ q, InR (C' 5 q)) ∧ X f' c' C' nm' g')) : RUNM G l (d + 4) mX3_endInCall [.ref r, .int (J ((t : Int)))] h (fun v h' => ∃ f' c' C' nm' g', ∃ F : Nat, v = some (.int (J (fcF c' (C' 5) F (-1)))) ∧ isR h' r (-1) 0 f' c' C' nm' g' ∧ Same (rBlk r) h h' ∧ c' 11 = (F : Int) ∧ X f' c' C' nm' g') := by
  refine RUNM.of (by decide +kernel) (Nat.le_of_ble_eq_true rfl) ?_
  refine r_aload_n (pc := 0) dX3_endInCall_0 rfl (by first | rfl | exact isRefV_rf _) ?_
  refine rj_iconst (pc := 1) dX3_endInCall_1 ?_
  refine rc_putR (pc := 2) dX3_endInCall_2 fX3_27 (by assumption) (fun h_2 hW_2 hS_2 => ?_)
  refine r_aload_n (pc := 5) dX3_endInCall_5 rfl (by first | rfl | exact isRefV_rf _) ?_
  refine r_getf (pc := 6) dX3_endInCall_6 fX3_12 (by first | assumption | exact isI.gx (by assumption) | exact isI.gc (by assumption) | exact isW.gx (by assumption) | exact isW.gF (by assumption) | exact isW.gT (by assumption) (by omega) | exact isW.gS (by assumption) (by omega) | exact isW.gK (by assumption) (by omega) | exact isW.g1 (by assumption) | exact isW.g2 (by assumption) | exact isW.g3 (by assumption) | exact isI.gx (isW.i0 (by assumption)) | exact isI.gc (isW.i0 (by assumption)) | exact isI.gx (isW.i1 (by assumption)) | exact isI.gc (isW.i1 (by assumption)) | exact isI.gx (isW.i2 (by assumption)) | exact isI.gc (isW.i2 (by assumption)) | exact isI.gx (isW.i3 (by assumption)) | exact isI.gc (isW.i3 (by assumption)) | exact isI.gx (isW.i4 (by assumption)) | exact isI.gc (isW.i4 (by assumption)) | exact isI.gx (isW.i5 (by assumption)) | exact isI.gc (isW.i5 (by assumption)) | exact isR.gx (by assumption) | exact isRd.gx (by assumption) | exact isSp.gx (by assumption) | exact isI.gx (isR.i (by assumption)) | exact isI.gx (isRd.i (by assumption)) | exact isI.gc (isRd.i (by assumption)) | exact isI.gx (isSp.i (by assumption)) | exact isW.gx (isR.w (by assumption)) | exact isW.gF (isR.w (by assumption)) | fail "no such object") (by rfl) ?_
  refine r_getf (pc := 9) dX3_endInCall_9 fX3_31 (by first | assumption | exact isI.gx (by assumption) | exact isI.gc (by assumption) | exact isW.gx (by assumption) | exact isW.gF (by assumption) | exact isW.gT (by assumption) (by omega) | exact isW.gS (by assumption) (by omega) | exact isW.gK (by assumption) (by omega) | exact isW.g1 (by assumption) | exact isW.g2 (by assumption) | exact isW.g3 (by assumption) | exact isI.gx (isW.i0 (by assumption)) | exact isI.gc (isW.i0 (by assumption)) | exact isI.gx (isW.i1 (by assumption)) | exact isI.gc (isW.i1 (by assumption)) | exact isI.gx (isW.i2 (by assumption)) | exact isI.gc (isW.i2 (by assumption)) | exact isI.gx (isW.i3 (by assumption)) | exact isI.gc (isW.i3 (by assumption)) | exact isI.gx (isW.i4 (by assumption)) | exact isI.gc (isW.i4 (by assumption)) | exact isI.gx (isW.i5 (by assumption)) | exact isI.gc (isW.i5 (by assumption)) | exact isR.gx (by assumption) | exact isRd.gx (by assumption) | exact isSp.gx (by assumption) | exact isI.gx (isR.i (by assumption)) | exact isI.gx (isRd.i (by assumption)) | exact isI.gc (isRd.i (by assumption)) | exact isI.gx (isSp.i (by assumption)) | exact isW.gx (isR.w (by assumption)) | exact isW.gF (isR.w (by assumption)) | fail "no such object") (by rfl) ?_
  refine r_callV0 (pc := 12) dX3_endInCall_12 qX0_beginCall kX3_35 vX0_beginCall (by first | assumption | exact isI.gx (by assumption) | exact isI.gc (by assumption) | exact isW.gx (by assumption) | exact isW.gF (by assumption) | exact isW.gT (by assumption) (by omega) | exact isW.gS (by assumption) (by omega) | exact isW.gK (by assumption) (by omega) | exact isW.g1 (by assumption) | exact isW.g2 (by assumption) | exact isW.g3 (by assumption) | exact isI.gx (isW.i0 (by assumption)) | exact isI.gc (isW.i0 (by assumption)) | exact isI.gx (isW.i1 (by assumption)) | exact isI.gc (isW.i1 (by assumption)) | exact isI.gx (isW.i2 (by assumption)) | exact isI.gc (isW.i2 (by assumption)) | exact isI.gx (isW.i3 (by assumption)) | exact isI.gc (isW.i3 (by assumption)) | exact isI.gx (isW.i4 (by assumption)) | exact isI.gc (isW.i4 (by assumption)) | exact isI.gx (isW.i5 (by assumption)) | exact isI.gc (isW.i5 (by assumption)) | exact isR.gx (by assumption) | exact isRd.gx (by assumption) | exact isSp.gx (by assumption) | exact isI.gx (isR.i (by assumption)) | exact isI.gx (isRd.i (by assumption)) | exact isI.gc (isRd.i (by assumption)) | exact isI.gx (isSp.i (by assumption)) | exact isW.gx (isR.w (by assumption)) | exact isW.gF (isR.w (by assumption)) | fail "no such object") rfl rfl (Nat.le_of_ble_eq_true rfl) (cw_beginCall _ hW_2.w hc) (fun v_12 h_12 q_12 => ?_)
  obtain ⟨rfl, W_12, S_12⟩ := q_12
  have T_12 := hW_2.ofWr S_12 W_12
  have Q_12 := T_12.1
  have hcb := updI_R hc (k := 4) (v := c 11) hr11
  refine r_aload_n (pc := 15) dX3_endInCall_15 rfl (by first | rfl | exact isRefV_rf _) ?_
  refine r_iload_n (pc := 16) dX3_endInCall_16 rfl ?_
  refine r_callV1 (pc := 17) dX3_endInCall_17 qX3_beginToEnd kX3_40 vX3_beginToEnd (by first | assumption | exact isI.gx (by assumption) | exact isI.gc (by assumption) | exact isW.gx (by assumption) | exact isW.gF (by assumption) | exact isW.gT (by assumption) (by omega) | exact isW.gS (by assumption) (by omega) | exact isW.gK (by assumption) (by omega) | exact isW.g1 (by assumption) | exact isW.g2 (by assumption) | exact isW.g3 (by assumption) | exact isI.gx (isW.i0 (by assumption)) | exact isI.gc (isW.i0 (by assumption)) | exact isI.gx (isW.i1 (by assumption)) | exact isI.gc (isW.i1 (by assumption)) | exact isI.gx (isW.i2 (by assumption)) | exact isI.gc (isW.i2 (by assumption)) | exact isI.gx (isW.i3 (by assumption)) | exact isI.gc (isW.i3 (by assumption)) | exact isI.gx (isW.i4 (by assumption)) | exact isI.gc (isW.i4 (by assumption)) | exact isI.gx (isW.i5 (by assumption)) | exact isI.gc (isW.i5 (by assumption)) | exact isR.gx (by assumption) | exact isRd.gx (by assumption) | exact isSp.gx (by assumption) | exact isI.gx (isR.i (by assumption)) | exact isI.gx (isRd.i (by assumption)) | exact isI.gc (isRd.i (by assumption)) | exact isI.gx (isSp.i (by assumption)) | exact isW.gx (isR.w (by assumption)) | exact isW.gF (isR.w (by assumption)) | fail "no such object") rfl rfl (Nat.le_of_ble_eq_true rfl) (cr_beginToEndT _ Q_12 hcb (by decide) (t := t) (by rw [updI_n (by omega)]; exact ht) ht2) (fun v_17 h_17 q_17 => ?_)
  obtain ⟨rfl, Q_17, S_17⟩ := q_17
  refine r_aload_n (pc := 20) dX3_endInCall_20 rfl (by first | rfl | exact isRefV_rf _) ?_
  have S_h := (hS_2.trans T_12.2).trans S_17
  have y := P _ Q_17 S_h
  unfold WK at y
  refine r_callV0 (pc := 21) dX3_endInCall_21 qX3_work kX3_43 vX3_work (by first | assumption | exact isI.gx (by assumption) | exact isI.gc (by assumption) | exact isW.gx (by assumption) | exact isW.gF (by assumption) | exact isW.gT (by assumption) (by omega) | exact isW.gS (by assumption) (by omega) | exact isW.gK (by assumption) (by omega) | exact isW.g1 (by assumption) | exact isW.g2 (by assumption) | exact isW.g3 (by assumption) | exact isI.gx (isW.i0 (by assumption)) | exact isI.gc (isW.i0 (by assumption)) | exact isI.gx (isW.i1 (by assumption)) | exact isI.gc (isW.i1 (by assumption)) | exact isI.gx (isW.i2 (by assumption)) | exact isI.gc (isW.i2 (by assumption)) | exact isI.gx (isW.i3 (by assumption)) | exact isI.gc (isW.i3 (by assumption)) | exact isI.gx (isW.i4 (by assumption)) | exact isI.gc (isW.i4 (by assumption)) | exact isI.gx (isW.i5 (by assumption)) | exact isI.gc (isW.i5 (by assumption)) | exact isR.gx (by assumption) | exact isRd.gx (by assumption) | exact isSp.gx (by assumption) | exact isI.gx (isR.i (by assumption)) | exact isI.gx (isRd.i (by assumption)) | exact isI.gc (isRd.i (by assumption)) | exact isI.gx (isSp.i (by assumption)) | exact isW.gx (isR.w (by assumption)) | exact isW.gF (isR.w (by assumption)) | fail "no such object") rfl rfl (Nat.le_of_ble_eq_true rfl) (y) (fun v_21 h_21 q_21 => ?_)
  obtain ⟨rfl, f', c', C', nm', g', F, ⟨Q_21, S_21⟩, ⟨hc', h11, h12, h13, hcapF, h4, hC5⟩, hX⟩ := q_21
  refine r_aload_n (pc := 24) dX3_endInCall_24 rfl (by first | rfl | exact isRefV_rf _) ?_
  refine r_getf (pc := 25) dX3_endInCall_25 fX3_12 (by first | assumption | exact isI.gx (by assumption) | exact isI.gc (by assumption) | exact isW.gx (by assumption) | exact isW.gF (by assumption) | exact isW.gT (by assumption) (by omega) | exact isW.gS (by assumption) (by omega) | exact isW.gK (by assumption) (by omega) | exact isW.g1 (by assumption) | exact isW.g2 (by assumption) | exact isW.g3 (by assumption) | exact isI.gx (isW.i0 (by assumption)) | exact isI.gc (isW.i0 (by assumption)) | exact isI.gx (isW.i1 (by assumption)) | exact isI.gc (isW.i1 (by assumption)) | exact isI.gx (isW.i2 (by assumption)) | exact isI.gc (isW.i2 (by assumption)) | exact isI.gx (isW.i3 (by assumption)) | exact isI.gc (isW.i3 (by assumption)) | exact isI.gx (isW.i4 (by assumption)) | exact isI.gc (isW.i4 (by assumption)) | exact isI.gx (isW.i5 (by assumption)) | exact isI.gc (isW.i5 (by assumption)) | exact isR.gx (by assumption) | exact isRd.gx (by assumption) | exact isSp.gx (by assumption) | exact isI.gx (isR.i (by assumption)) | exact isI.gx (isRd.i (by assumption)) | exact isI.gc (isRd.i (by assumption)) | exact isI.gx (isSp.i (by assumption)) | exact isW.gx (isR.w (by assumption)) | exact isW.gF (isR.w (by assumption)) | fail "no such object") (by rfl) ?_
  refine rj_iconst (pc := 28) dX3_endInCall_28 ?_
  refine r_callV1 (pc := 29) dX3_endInCall_29 qX9_faultCount kX3_46 vX9_faultCount (by first | assumption | exact isI.gx (by assumption) | exact isI.gc (by assumption) | exact isW.gx (by assumption) | exact isW.gF (by assumption) | exact isW.gT (by assumption) (by omega) | exact isW.gS (by assumption) (by omega) | exact isW.gK (by assumption) (by omega) | exact isW.g1 (by assumption) | exact isW.g2 (by assumption) | exact isW.g3 (by assumption) | exact isI.gx (isW.i0 (by assumption)) | exact isI.gc (isW.i0 (by assumption)) | exact isI.gx (isW.i1 (by assumption)) | exact isI.gc (isW.i1 (by assumption)) | exact isI.gx (isW.i2 (by assumption)) | exact isI.gc (isW.i2 (by assumption)) | exact isI.gx (isW.i3 (by assumption)) | exact isI.gc (isW.i3 (by assumption)) | exact isI.gx (isW.i4 (by assumption)) | exact isI.gc (isW.i4 (by assumption)) | exact isI.gx (isW.i5 (by assumption)) | exact isI.gc (isW.i5 (by assumption)) | exact isR.gx (by assumption) | exact isRd.gx (by assumption) | exact isSp.gx (by assumption) | exact isI.gx (isR.i (by assumption)) | exact isI.gx (isRd.i (by assumption)) | exact isI.gc (isRd.i (by assumption)) | exact isI.gx (isSp.i (by assumption)) | exact isW.gx (isR.w (by assumption)) | exact isW.gF (isR.w (by assumption)) | fail "no such object") rfl rfl (Nat.le_of_ble_eq_true rfl) (cq_faultCount _ Q_21.w hc' h11 h12 h13 hcapF h4 hC5 (i := -1) (by decide)) (fun v_29 h_29 q_29 => ?_)
  obtain ⟨rfl, rfl⟩ := q_29
  refine r_ireturn (pc := 32) .int dX3_endInCall_32 rfl (by first | rfl | assumption) ?_
  exact ⟨f', c', C', nm', g', F, rfl, Q_21, S_h.trans S_21, h11, hX⟩
set_option maxHeartbeats 4000000 in
set_option maxRecDepth 100000 in
theorem cr_endScopeE {G : mG} {l : Launch} (d : Nat) {h : mH} {r : Nat} {b : Int} {f : Nat → Int} {c : Nat → Int} {C : Nat → Nat → Int} {nm : Nat → Int64} {g : Nat → Option Nat} (hR : isR h r b 0 f c C nm g) (hc : ∀ q, InR (c q)) (hr11 : InR (c 11)) {u : Nat} (hu : (u : Int) < c 1) (hu2 : u < 60) {X : (Nat → Int) → (Nat → Int) → (Nat → Nat → Int) → (Nat → Int64) → (Nat → Option Nat) → Prop} (P : ∀ h1, isR h1 r (-1) (0 + 1) (updI f (0 : Int).toNat (100 + (u : Int))) (updI (updI c 4 (c 11)) (304 + 3 * u) 2) C nm g → Same (rBlk r) h h1 → WK G l (d + 3) r h1 (fun h' => ∃ f' c' C' nm' g', ∃ F : Nat, (isR h' r (-1) 0 f' c' C' nm' g' ∧ Same (rBlk r) h1 h') ∧ ((∀ q, InR (c' q)) ∧ c' 11 = (F : Int) ∧ c' 12 = (F : Int) ∧ c' 13 = (F : Int) ∧ F ≤ 90 ∧ (0 ≤ c' 4 ∧ c' 4 ≤ (F : Int)) ∧ ∀ q, InR (C' 5 q)) ∧ X f' c' C' nm' g')) : RUNM G l (d + 4) mX3_endInCall [.ref r, .int (J (100 + (u : Int)))] h (fun v h' => ∃ f' c' C' nm' g', ∃ F : Nat, v = some (.int (J (fcF c' (C' 5) F (-1)))) ∧ isR h' r (-1) 0 f' c' C' nm' g' ∧ Same (rBlk r) h h' ∧ c' 11 = (F : Int) ∧ X f' c' C' nm' g') := by
  refine RUNM.of (by decide +kernel) (Nat.le_of_ble_eq_true rfl) ?_
  refine r_aload_n (pc := 0) dX3_endInCall_0 rfl (by first | rfl | exact isRefV_rf _) ?_
  refine rj_iconst (pc := 1) dX3_endInCall_1 ?_
  refine rc_putR (pc := 2) dX3_endInCall_2 fX3_27 (by assumption) (fun h_2 hW_2 hS_2 => ?_)
  refine r_aload_n (pc := 5) dX3_endInCall_5 rfl (by first | rfl | exact isRefV_rf _) ?_
  refine r_getf (pc := 6) dX3_endInCall_6 fX3_12 (by first | assumption | exact isI.gx (by assumption) | exact isI.gc (by assumption) | exact isW.gx (by assumption) | exact isW.gF (by assumption) | exact isW.gT (by assumption) (by omega) | exact isW.gS (by assumption) (by omega) | exact isW.gK (by assumption) (by omega) | exact isW.g1 (by assumption) | exact isW.g2 (by assumption) | exact isW.g3 (by assumption) | exact isI.gx (isW.i0 (by assumption)) | exact isI.gc (isW.i0 (by assumption)) | exact isI.gx (isW.i1 (by assumption)) | exact isI.gc (isW.i1 (by assumption)) | exact isI.gx (isW.i2 (by assumption)) | exact isI.gc (isW.i2 (by assumption)) | exact isI.gx (isW.i3 (by assumption)) | exact isI.gc (isW.i3 (by assumption)) | exact isI.gx (isW.i4 (by assumption)) | exact isI.gc (isW.i4 (by assumption)) | exact isI.gx (isW.i5 (by assumption)) | exact isI.gc (isW.i5 (by assumption)) | exact isR.gx (by assumption) | exact isRd.gx (by assumption) | exact isSp.gx (by assumption) | exact isI.gx (isR.i (by assumption)) | exact isI.gx (isRd.i (by assumption)) | exact isI.gc (isRd.i (by assumption)) | exact isI.gx (isSp.i (by assumption)) | exact isW.gx (isR.w (by assumption)) | exact isW.gF (isR.w (by assumption)) | fail "no such object") (by rfl) ?_
  refine r_getf (pc := 9) dX3_endInCall_9 fX3_31 (by first | assumption | exact isI.gx (by assumption) | exact isI.gc (by assumption) | exact isW.gx (by assumption) | exact isW.gF (by assumption) | exact isW.gT (by assumption) (by omega) | exact isW.gS (by assumption) (by omega) | exact isW.gK (by assumption) (by omega) | exact isW.g1 (by assumption) | exact isW.g2 (by assumption) | exact isW.g3 (by assumption) | exact isI.gx (isW.i0 (by assumption)) | exact isI.gc (isW.i0 (by assumption)) | exact isI.gx (isW.i1 (by assumption)) | exact isI.gc (isW.i1 (by assumption)) | exact isI.gx (isW.i2 (by assumption)) | exact isI.gc (isW.i2 (by assumption)) | exact isI.gx (isW.i3 (by assumption)) | exact isI.gc (isW.i3 (by assumption)) | exact isI.gx (isW.i4 (by assumption)) | exact isI.gc (isW.i4 (by assumption)) | exact isI.gx (isW.i5 (by assumption)) | exact isI.gc (isW.i5 (by assumption)) | exact isR.gx (by assumption) | exact isRd.gx (by assumption) | exact isSp.gx (by assumption) | exact isI.gx (isR.i (by assumption)) | exact isI.gx (isRd.i (by assumption)) | exact isI.gc (isRd.i (by assumption)) | exact isI.gx (isSp.i (by assumption)) | exact isW.gx (isR.w (by assumption)) | exact isW.gF (isR.w (by assumption)) | fail "no such object") (by rfl) ?_
  refine r_callV0 (pc := 12) dX3_endInCall_12 qX0_beginCall kX3_35 vX0_beginCall (by first | assumption | exact isI.gx (by assumption) | exact isI.gc (by assumption) | exact isW.gx (by assumption) | exact isW.gF (by assumption) | exact isW.gT (by assumption) (by omega) | exact isW.gS (by assumption) (by omega) | exact isW.gK (by assumption) (by omega) | exact isW.g1 (by assumption) | exact isW.g2 (by assumption) | exact isW.g3 (by assumption) | exact isI.gx (isW.i0 (by assumption)) | exact isI.gc (isW.i0 (by assumption)) | exact isI.gx (isW.i1 (by assumption)) | exact isI.gc (isW.i1 (by assumption)) | exact isI.gx (isW.i2 (by assumption)) | exact isI.gc (isW.i2 (by assumption)) | exact isI.gx (isW.i3 (by assumption)) | exact isI.gc (isW.i3 (by assumption)) | exact isI.gx (isW.i4 (by assumption)) | exact isI.gc (isW.i4 (by assumption)) | exact isI.gx (isW.i5 (by assumption)) | exact isI.gc (isW.i5 (by assumption)) | exact isR.gx (by assumption) | exact isRd.gx (by assumption) | exact isSp.gx (by assumption) | exact isI.gx (isR.i (by assumption)) | exact isI.gx (isRd.i (by assumption)) | exact isI.gc (isRd.i (by assumption)) | exact isI.gx (isSp.i (by assumption)) | exact isW.gx (isR.w (by assumption)) | exact isW.gF (isR.w (by assumption)) | fail "no such object") rfl rfl (Nat.le_of_ble_eq_true rfl) (cw_beginCall _ hW_2.w hc) (fun v_12 h_12 q_12 => ?_)
  obtain ⟨rfl, W_12, S_12⟩ := q_12
  have T_12 := hW_2.ofWr S_12 W_12
  have Q_12 := T_12.1
  have hcb := updI_R hc (k := 4) (v := c 11) hr11
  refine r_aload_n (pc := 15) dX3_endInCall_15 rfl (by first | rfl | exact isRefV_rf _) ?_
  refine r_iload_n (pc := 16) dX3_endInCall_16 rfl ?_
  refine r_callV1 (pc := 17) dX3_endInCall_17 qX3_beginToEnd kX3_40 vX3_beginToEnd (by first | assumption | exact isI.gx (by assumption) | exact isI.gc (by assumption) | exact isW.gx (by assumption) | exact isW.gF (by assumption) | exact isW.gT (by assumption) (by omega) | exact isW.gS (by assumption) (by omega) | exact isW.gK (by assumption) (by omega) | exact isW.g1 (by assumption) | exact isW.g2 (by assumption) | exact isW.g3 (by assumption) | exact isI.gx (isW.i0 (by assumption)) | exact isI.gc (isW.i0 (by assumption)) | exact isI.gx (isW.i1 (by assumption)) | exact isI.gc (isW.i1 (by assumption)) | exact isI.gx (isW.i2 (by assumption)) | exact isI.gc (isW.i2 (by assumption)) | exact isI.gx (isW.i3 (by assumption)) | exact isI.gc (isW.i3 (by assumption)) | exact isI.gx (isW.i4 (by assumption)) | exact isI.gc (isW.i4 (by assumption)) | exact isI.gx (isW.i5 (by assumption)) | exact isI.gc (isW.i5 (by assumption)) | exact isR.gx (by assumption) | exact isRd.gx (by assumption) | exact isSp.gx (by assumption) | exact isI.gx (isR.i (by assumption)) | exact isI.gx (isRd.i (by assumption)) | exact isI.gc (isRd.i (by assumption)) | exact isI.gx (isSp.i (by assumption)) | exact isW.gx (isR.w (by assumption)) | exact isW.gF (isR.w (by assumption)) | fail "no such object") rfl rfl (Nat.le_of_ble_eq_true rfl) (cr_beginS _ Q_12 hcb (by decide) (u := u) (by rw [updI_n (by omega)]; exact hu) hu2) (fun v_17 h_17 q_17 => ?_)
  obtain ⟨rfl, Q_17, S_17⟩ := q_17
  refine r_aload_n (pc := 20) dX3_endInCall_20 rfl (by first | rfl | exact isRefV_rf _) ?_
  have S_h := (hS_2.trans T_12.2).trans S_17
  have y := P _ Q_17 S_h
  unfold WK at y
  refine r_callV0 (pc := 21) dX3_endInCall_21 qX3_work kX3_43 vX3_work (by first | assumption | exact isI.gx (by assumption) | exact isI.gc (by assumption) | exact isW.gx (by assumption) | exact isW.gF (by assumption) | exact isW.gT (by assumption) (by omega) | exact isW.gS (by assumption) (by omega) | exact isW.gK (by assumption) (by omega) | exact isW.g1 (by assumption) | exact isW.g2 (by assumption) | exact isW.g3 (by assumption) | exact isI.gx (isW.i0 (by assumption)) | exact isI.gc (isW.i0 (by assumption)) | exact isI.gx (isW.i1 (by assumption)) | exact isI.gc (isW.i1 (by assumption)) | exact isI.gx (isW.i2 (by assumption)) | exact isI.gc (isW.i2 (by assumption)) | exact isI.gx (isW.i3 (by assumption)) | exact isI.gc (isW.i3 (by assumption)) | exact isI.gx (isW.i4 (by assumption)) | exact isI.gc (isW.i4 (by assumption)) | exact isI.gx (isW.i5 (by assumption)) | exact isI.gc (isW.i5 (by assumption)) | exact isR.gx (by assumption) | exact isRd.gx (by assumption) | exact isSp.gx (by assumption) | exact isI.gx (isR.i (by assumption)) | exact isI.gx (isRd.i (by assumption)) | exact isI.gc (isRd.i (by assumption)) | exact isI.gx (isSp.i (by assumption)) | exact isW.gx (isR.w (by assumption)) | exact isW.gF (isR.w (by assumption)) | fail "no such object") rfl rfl (Nat.le_of_ble_eq_true rfl) (y) (fun v_21 h_21 q_21 => ?_)
  obtain ⟨rfl, f', c', C', nm', g', F, ⟨Q_21, S_21⟩, ⟨hc', h11, h12, h13, hcapF, h4, hC5⟩, hX⟩ := q_21
  refine r_aload_n (pc := 24) dX3_endInCall_24 rfl (by first | rfl | exact isRefV_rf _) ?_
  refine r_getf (pc := 25) dX3_endInCall_25 fX3_12 (by first | assumption | exact isI.gx (by assumption) | exact isI.gc (by assumption) | exact isW.gx (by assumption) | exact isW.gF (by assumption) | exact isW.gT (by assumption) (by omega) | exact isW.gS (by assumption) (by omega) | exact isW.gK (by assumption) (by omega) | exact isW.g1 (by assumption) | exact isW.g2 (by assumption) | exact isW.g3 (by assumption) | exact isI.gx (isW.i0 (by assumption)) | exact isI.gc (isW.i0 (by assumption)) | exact isI.gx (isW.i1 (by assumption)) | exact isI.gc (isW.i1 (by assumption)) | exact isI.gx (isW.i2 (by assumption)) | exact isI.gc (isW.i2 (by assumption)) | exact isI.gx (isW.i3 (by assumption)) | exact isI.gc (isW.i3 (by assumption)) | exact isI.gx (isW.i4 (by assumption)) | exact isI.gc (isW.i4 (by assumption)) | exact isI.gx (isW.i5 (by assumption)) | exact isI.gc (isW.i5 (by assumption)) | exact isR.gx (by assumption) | exact isRd.gx (by assumption) | exact isSp.gx (by assumption) | exact isI.gx (isR.i (by assumption)) | exact isI.gx (isRd.i (by assumption)) | exact isI.gc (isRd.i (by assumption)) | exact isI.gx (isSp.i (by assumption)) | exact isW.gx (isR.w (by assumption)) | exact isW.gF (isR.w (by assumption)) | fail "no such object") (by rfl) ?_
  refine rj_iconst (pc := 28) dX3_endInCall_28 ?_
  refine r_callV1 (pc := 29) dX3_endInCall_29 qX9_faultCount kX3_46 vX9_faultCount (by first | assumption | exact isI.gx (by assumption) | exact isI.gc (by assumption) | exact isW.gx (by assumption) | exact isW.gF (by assumption) | exact isW.gT (by assumption) (by omega) | exact isW.gS (by assumption) (by omega) | exact isW.gK (by assumption) (by omega) | exact isW.g1 (by assumption) | exact isW.g2 (by assumption) | exact isW.g3 (by assumption) | exact isI.gx (isW.i0 (by assumption)) | exact isI.gc (isW.i0 (by assumption)) | exact isI.gx (isW.i1 (by assumption)) | exact isI.gc (isW.i1 (by assumption)) | exact isI.gx (isW.i2 (by assumption)) | exact isI.gc (isW.i2 (by assumption)) | exact isI.gx (isW.i3 (by assumption)) | exact isI.gc (isW.i3 (by assumption)) | exact isI.gx (isW.i4 (by assumption)) | exact isI.gc (isW.i4 (by assumption)) | exact isI.gx (isW.i5 (by assumption)) | exact isI.gc (isW.i5 (by assumption)) | exact isR.gx (by assumption) | exact isRd.gx (by assumption) | exact isSp.gx (by assumption) | exact isI.gx (isR.i (by assumption)) | exact isI.gx (isRd.i (by assumption)) | exact isI.gc (isRd.i (by assumption)) | exact isI.gx (isSp.i (by assumption)) | exact isW.gx (isR.w (by assumption)) | exact isW.gF (isR.w (by assumption)) | fail "no such object") rfl rfl (Nat.le_of_ble_eq_true rfl) (cq_faultCount _ Q_21.w hc' h11 h12 h13 hcapF h4 hC5 (i := -1) (by decide)) (fun v_29 h_29 q_29 => ?_)
  obtain ⟨rfl, rfl⟩ := q_29
  refine r_ireturn (pc := 32) .int dX3_endInCall_32 rfl (by first | rfl | assumption) ?_
  exact ⟨f', c', C', nm', g', F, rfl, Q_21, S_h.trans S_21, h11, hX⟩
end mg_b5
section mg_b6
/-! ===== calls that end things, ticks: both sides ===== -/
theorem Same.join {P : Nat → Prop} {h0 h1 h2 : mH} (a : Same P h0 h1) (b : Same P h0 h2) : Same P h1 h2 := ⟨b.1.trans a.1.symm, b.2.1.trans a.2.1.symm, b.2.2.1.trans a.2.2.1.symm, fun q hq => (b.2.2.2 q hq).trans (a.2.2.2 q hq).symm⟩
theorem TKR.kq {m m' pool c c' : Nat → Int} {S : Nat → Option mO} {g g' : Nat → Option Nat} {t0 : Nat} (h : TKR m pool c S g t0) (k3 : m 3 ≤ 10) (hn : ∀ q : Nat, (q : Int) < m 3 → ∃ n : Nat, m (1619 + 72 * q) = n ∧ n ≤ 60) (k1 : ∀ j, 180 ≤ j → g' j = g j) (k2 : ∀ q, 488 ≤ q → (∀ t : Nat, q ≠ 496 + 9 * t) → c' q = c q) (k30 : c' 3 = c 3) (h3 : m' 3 = m 3) (h7 : m' 7 = m 7) (hm : ∀ q, 1608 ≤ q → q < 2328 → (∀ t : Nat, q ≠ 1614 + 72 * t) → m' q = m q) : TKR m' pool c' S g' t0 := by
  obtain ⟨a, b⟩ := h
  refine ⟨by rw [k30, h7]; exact a, fun q hq => ?_⟩
  rw [h3] at hq
  obtain ⟨b1, b2⟩ := b q hq
  exact ⟨tkA_c b1 (fun j x y z _ _ => hm j (by omega) (by omega) (fun t w => by omega)) (fun j x y z _ => k2 j (by omega) (fun t w => by omega)) (k1 _ (by omega)), fun z => tkC_c (b2 z) (fun j x y w => hm j (by omega) (by omega) (fun t w => by omega)) (hn q hq) (k2 _ (by omega) (fun t w => by omega)) (k1 _ (by omega))⟩
theorem fcF_call {m pool c : Nat → Int} {S : Nat → Option mO} {C : Nat → Nat → Int} {nm : Nat → Int64} {g : Nat → Option Nat} {F : Nat} (h : CR m pool S c C nm g) (hF : c 11 = (F : Int)) : fcF c (C 5) F (-1) = m 5 := by
  obtain ⟨-, -, -, -, -, -, ⟨F', f0⟩, -, -⟩ := h
  obtain rfl : F' = F := by have := f0.1.1; omega
  have of0 : ofF c (-1) = 0 := by
    unfold ofF
    rw [if_neg]
    intro w
    have := w.1
    omega
  unfold fcF b0F
  rw [of0, if_pos rfl, if_pos rfl, Int.add_zero, f0.2.2.2.2.2.1]
theorem CR.fa {m pool c : Nat → Int} {S : Nat → Option mO} {C : Nat → Nat → Int} {nm : Nat → Int64} {g : Nat → Option Nat} (h : CR m pool S c C nm g) (hok : mOk m) : ∃ F : Nat, (∀ q, InR (c q)) ∧ c 11 = (F : Int) ∧ c 12 = (F : Int) ∧ c 13 = (F : Int) ∧ F ≤ 90 ∧ (0 ≤ c 4 ∧ c 4 ≤ (F : Int)) ∧ ∀ q, InR (C 5 q) := by
  obtain ⟨-, -, -, -, -, -, ⟨F, f0⟩, -, R⟩ := h
  have k2 := hok.2.2.2.1
  have := f0.2.1
  exact ⟨F, R.1, f0.1.1, f0.1.2.1, f0.1.2.2, by omega, f0.2.2.1, R.2 5⟩
section BO
variable {G : mG} {l : Launch} {r : Nat} {pool : Nat → Int} {S : Nat → Option mO} {h0 : mH}
theorem both_close (hS : ∀ a o, S a = some o → hGet h0 a = some o) (hSr : ∀ a, ¬ S a = none → ¬ rBlk r a) {m : Nat → Int} {B T t : Int} (h : All m pool B T) (hP : poolOk pool) (hB : B ≤ 1900000000) (hd : closeDo m t) :
    ∃ m', closesR pool (-1) 91 (updI m 5 0) t.toNat m' ∧ All m' pool B T ∧ m' 8 = m 8 ∧ ∀ b0 c4 h1, BES r pool S h0 b0 c4 m h1 → RUNM G l 13 mX3_endInCall [.ref r, .int (J t)] h1 (fun v h' => v = some (.int (J (m' 5))) ∧ ∃ c5, BES r pool S h0 (-1) c5 m' h') := by
  have h5 := h.low (k := 5) (v := 0) (by decide) (Or.inr ⟨rfl, rfl⟩)
  have k1 := h.1.1.1.2.2.1
  have k0 := h.1.1.1.2.1
  have k3 := h.1.1.1.2.2.2.2.1
  have e : ∀ q, ¬ q = 5 → updI m 5 0 q = m q := fun q a => updI_n a
  have nc : cnt (cngB (updI m 5 0)) (updI m 5 0 1).toNat = 0 := h5.1.2.2.1.cnt (by rw [e 1 (by omega)]; exact k1.1)
  obtain ⟨u, eu⟩ : ∃ u : Nat, t = u := ⟨t.toNat, by have := hd.1; omega⟩
  subst eu
  have hu1 : (u : Int) < m 1 := by have := hd.1; omega
  have hu0 : m (258 + 14 * u) = 0 := by rw [← hd.2]; congr 1
  rw [show ((u : Int)).toNat = u by omega]
  obtain ⟨m', a, b, c, -, -⟩ := simC_all (G := G) (l := l) (b := -1) hS hSr ⟨by decide, by decide⟩ hP 91 _ u B h5.1.1 (by omega) (by rw [nc]; omega) (by rw [e 1 (by omega)]; omega) (by rw [e _ (by omega)]; exact hu0)
  have hA := h5.es b (c.sc h5.1.2.1 (by rw [e 0 (by omega)]; omega)) c.es
  refine ⟨m', a.1, hA, (c.1 8 (by unfold far; omega)).trans (e 8 (by omega)), fun b0 c4 h1 hX => ?_⟩
  obtain ⟨f, cc, C, nm, g, hR, hSm, hC, hK, h4⟩ := hX
  have y := CR_call hC h.1.1.1
  have y2 := CR_cng y h5.1.1.1 (Int.le_refl _) (t := u) (by rw [e 1 (by omega)]; exact hu1) (by rw [e _ (by omega)]; exact hu0)
  obtain ⟨n0, -, -, -, -, -, -, -, hc, -⟩ := id hC
  have P := cr_endThingE (G := G) (l := l) 9 hR hc (hc 11) (t := u) (by rw [n0.1]; exact hu1) (by omega) (X := fun f' c' C' nm' g' => CR m' pool S c' C' nm' g' ∧ TKR m' pool c' S g' 99) (fun h2 hR2 hS2 => by
    have sr : SR (updI m 5 0) := fun a ha => (h5.1.2.1.2.2 a ha).1
    have go := a.2.1 sr 0 0 _ _ C nm _ h2 hR2 updI_s (hSm.trans hS2) y2 (by unfold btG; rw [updO_s, updO_n (by omega)]) (by rw [nc]; decide) (by
      have p0 := psi_0 h5.1.1.1 h5.1.2.2.1
      have co := cnt_r (openB (updI m 5 0)) (updI m 5 0 0).toNat
      have k2 := h5.1.1.1.2.2.2.1
      unfold psi at p0
      omega)
    refine go_wk go (fun k' h' w => ?_)
    obtain ⟨f', c', C', nm', g', x1, x2, x3, x4, x5, x6⟩ := w
    refine ⟨?_, _, _, _, _, _, _, x1, fun h'' z1 z2 => ?_⟩
    · have co := cnt_r (openB m') (m' 0).toNat
      have cm := hA.1.2.2.1.cnt hA.1.1.1.2.2.1.1
      have k2 := hA.1.1.1.2.2.2.1
      have k2' := h5.1.1.1.2.2.2.1
      unfold phi at x6
      rw [cm, nc] at x6
      omega
    · obtain ⟨F, w⟩ := x3.fa hA.1.1.1
      obtain ⟨-, v2, v3, v4, v5⟩ := x5
      refine ⟨f', c', C', nm', g', F, ⟨z1, ((hSm.trans hS2).join x2).trans z2⟩, w, x3, hK.kq k3.2 h.2.1.nn (fun j hj => ?_) (fun j hj hj2 => ?_) ?_ ?_ ?_ (fun j a b d => ?_)⟩
      · rw [v2 j hj]; unfold btG; exact updO_n (by omega)
      · rw [v3 j hj hj2, updI_n (by omega), updI_n (by omega)]
      · rw [v4, updI_n (by omega), updI_n (by omega)]
      · rw [c.1 3 (by unfold far; omega), e 3 (by omega)]
      · rw [c.1 7 (by unfold far; omega), e 7 (by omega)]
      · rw [c.1 j (fat_far (Or.inr (Or.inr (Or.inr (Or.inr (Or.inr ⟨a, b, d⟩)))))), e j (by omega)])
  refine P.mono (fun v h' w => ?_)
  obtain ⟨f', c', C', nm', g', F, w1, w2, w3, w4, w5, w6⟩ := w
  exact ⟨by rw [w1, fcF_call w5 w4], _, f', c', C', nm', g', w2, hSm.trans w3, w5, w6, rfl⟩
theorem both_shut (hS : ∀ a o, S a = some o → hGet h0 a = some o) (hSr : ∀ a, ¬ S a = none → ¬ rBlk r a) {m : Nat → Int} {B T t : Int} (h : All m pool B T) (hP : poolOk pool) (hB : B ≤ 1900000000) (hd : openP m t) :
    ∃ m', shutsR pool (-1) 61 (updI m 5 0) t m' ∧ All m' pool B T ∧ m' 8 = m 8 ∧ ∀ b0 c4 h1, BES r pool S h0 b0 c4 m h1 → RUNM G l 13 mX3_endInCall [.ref r, .int (J (100 + t))] h1 (fun v h' => v = some (.int (J (m' 5))) ∧ ∃ c5, BES r pool S h0 (-1) c5 m' h') := by
  have h5 := h.low (k := 5) (v := 0) (by decide) (Or.inr ⟨rfl, rfl⟩)
  have k1 := h.1.1.1.2.2.1
  have k0 := h.1.1.1.2.1
  have k3 := h.1.1.1.2.2.2.2.1
  have e : ∀ q, ¬ q = 5 → updI m 5 0 q = m q := fun q a => updI_n a
  obtain ⟨u, eu⟩ : ∃ u : Nat, t = u := ⟨t.toNat, by have := hd.1; omega⟩
  subst eu
  obtain ⟨hu1, hu0⟩ := openP_nat.mp hd
  obtain ⟨m', a, b, c, d, -⟩ := simS_all (G := G) (l := l) (b := -1) hS hSr ⟨by decide, by decide⟩ hP 61 _ u B h5.1.1 h5.1.2.1 h5.1.2.2.1 hB (by omega) (by rw [e 0 (by omega)]; exact hu1) (fun c _ hc => h5.1.2.2.2 c hc)
  have hA := h5.es b c d
  refine ⟨m', a.1, hA, (d.1 8 (Or.inr (Or.inr (Or.inr (Or.inl rfl))))).trans (e 8 (by omega)), fun b0 c4 h1 hX => ?_⟩
  obtain ⟨f, cc, C, nm, g, hR, hSm, hC, hK, h4⟩ := hX
  have y := CR_call hC h.1.1.1
  have y2 := CR_scb y h5.1.1.1 (Int.le_refl _) (a := u) (by rw [e 0 (by omega)]; exact hu1) (by rw [e _ (by omega)]; exact hu0)
  obtain ⟨n0, -, -, -, -, -, -, -, hc, -⟩ := id hC
  have p0 := psi_0 h5.1.1.1 h5.1.2.2.1
  have P := cr_endScopeE (G := G) (l := l) 9 hR hc (hc 11) (u := u) (by rw [n0.2.1]; exact hu1) (by omega) (X := fun f' c' C' nm' g' => CR m' pool S c' C' nm' g' ∧ TKR m' pool c' S g' 99) (fun h2 hR2 hS2 => by
    have go := a.2.1 u rfl (by rw [e 0 (by omega)]; exact hu1) (by rw [e _ (by omega)]; exact hu0) 0 0 _ _ C nm _ h2 hR2 updI_s (hSm.trans hS2) y2 (by omega) (by omega)
    refine go_wk go (fun k' h' w => ?_)
    obtain ⟨f', c', C', nm', g', x1, x2, x3, x4, x5, x6⟩ := w
    refine ⟨psi_k hA.1.1.1 hA.1.2.2.1 x6 (by split <;> omega), _, _, _, _, _, _, x1, fun h'' z1 z2 => ?_⟩
    obtain ⟨F, w⟩ := x3.fa hA.1.1.1
    obtain ⟨v2, v3, v4, v5⟩ := x5
    refine ⟨f', c', C', nm', g', F, ⟨z1, ((hSm.trans hS2).join x2).trans z2⟩, w, x3, hK.kq k3.2 h.2.1.nn (fun j hj => v2 j hj) (fun j hj hj2 => ?_) ?_ ?_ ?_ (fun j a b d' => ?_)⟩
    · rw [v3 j hj hj2, updI_n (by omega), updI_n (by omega)]
    · rw [v4, updI_n (by omega), updI_n (by omega)]
    · rw [d.1 3 (Or.inr (Or.inl rfl)), e 3 (by omega)]
    · rw [d.1 7 (Or.inr (Or.inr (Or.inl rfl))), e 7 (by omega)]
    · rw [d.1 j (Or.inr (Or.inr (Or.inr (Or.inr (Or.inr ⟨a, b, d'⟩))))), e j (by omega)])
  refine P.mono (fun v h' w => ?_)
  obtain ⟨f', c', C', nm', g', F, w1, w2, w3, w4, w5, w6⟩ := w
  exact ⟨by rw [w1, fcF_call w5 w4], _, f', c', C', nm', g', w2, hSm.trans w3, w5, w6, rfl⟩
theorem BES.o3 {b c4 : Int} {m : Nat → Int} {h : mH} (k : BES r pool S h0 b c4 m h) : isO3 h r := by
  obtain ⟨f, c, C, nm, g, hR, -⟩ := k
  exact hR.o3
theorem WK.mono {G : mG} {l : Launch} {D r : Nat} {h : mH} {R R' : mH → Prop} (k : WK G l D r h R) (f : ∀ h', R h' → R' h') : WK G l D r h R' := RUNM.mono k (fun v h' w => ⟨w.1, f h' w.2⟩)
/-- work that there is none of -/
theorem wk_none {h : mH} {b c4 : Int} {m : Nat → Int} (k : BES r pool S h0 b c4 m h) : WK G l 12 r h (BES r pool S h0 b c4 m) := by
  refine go_wk (T := fun k' h' => k' = 0 ∧ h' = h) (GOES.rf ⟨rfl, rfl⟩) (fun k' h' w => ?_)
  obtain ⟨rfl, rfl⟩ := w
  obtain ⟨f, c, C, nm, g, hR, x2, x3⟩ := k
  exact ⟨by decide, b, f, c, C, nm, g, hR, fun h'' a d => ⟨f, c, C, nm, g, a, x2.trans d, x3⟩⟩
/-- a call of tick -/
theorem both_tick (hS : ∀ a o, S a = some o → hGet h0 a = some o) (hSr : ∀ a, ¬ S a = none → ¬ rBlk r a) (hPo : poolOk pool) {m : Nat → Int} {B T : Int} (h : All m pool B T) (hB : B ≤ 1700000000) (hT : T ≤ 900000000) :
    ∃ m', tickR pool m m' ∧ All m' pool (B + 120) (T + 1) ∧ m' 8 = m 8 ∧ ∀ b0 c4 h1, BES r pool S h0 b0 c4 m h1 → RUNM G l 13 mX3_tickOnce [.ref r] h1 (fun v h' => v = some (.int (J (nextV m))) ∧ ∃ b, BES r pool S h0 b c4 m' h') := by
  obtain ⟨h1, h2, h3, h4⟩ := id h
  rcases sim_tick (G := G) (l := l) hS hSr hPo h1 h2 hB (by omega) with ⟨z, a, k⟩ | ⟨q, z, zq, m', a, a2, a3, a4, a5, a6, k⟩
  · refine ⟨m, a, h.up (by omega) (by omega), rfl, fun b0 c4 hh hX => ?_⟩
    rw [z]
    exact cr_tickOnce (G := G) (l := l) 12 (R1 := BES r pool S h0 b0 c4 m) (R2 := fun h' => ∃ b, BES r pool S h0 b c4 m h') hX.o3 ((k b0 c4 hh hX).mono (fun v h' w => by
      obtain ⟨w1, rfl⟩ := w
      exact ⟨w1, hX⟩)) (fun h' w => w.o3) (fun h' w => (wk_none w).mono (fun _ x => ⟨_, x⟩))
  · refine ⟨m', a, ⟨a2, a3, by omega, by omega, by rw [a6.1]; exact h.2.2.2.2⟩, a6.1, fun b0 c4 hh hX => ?_⟩
    obtain ⟨R1, r1, r2, r3⟩ := k b0 c4 hh hX
    exact cr_tickOnce (G := G) (l := l) 12 (R1 := R1) (R2 := fun h' => ∃ b, BES r pool S h0 b c4 m' h') hX.o3 r1 r2 (fun h' w => (r3 h' w).mono (fun _ x => ⟨_, x⟩))
/-- so many ticks, row by row -/
theorem both_tickL (hS : ∀ a o, S a = some o → hGet h0 a = some o) (hSr : ∀ a, ¬ S a = none → ¬ rBlk r a) (hPo : poolOk pool) : ∀ (n : Nat) (m : Nat → Int) (B : Int), Mid m pool B → TkM m pool 99 → B + 120 * n ≤ 1700000000 → m 7 + n ≤ 1000000000 →
    ∃ (k : Nat) (s : Nat → Nat → Int), s 0 = m ∧ ticksR pool n m k (s k) ∧ k ≤ n ∧ Mid (s k) pool (B + 120 * n) ∧ TkM (s k) pool 99 ∧ s k 3 = m 3 ∧ s k 7 ≤ m 7 + n ∧ s k 8 = m 8 ∧ m 1 ≤ s k 1 ∧
      (∀ i, i < k → ∀ b0 c4 h, BES r pool S h0 b0 c4 (s i) h → ∃ q : Nat, (q : Int) < 10 ∧ ∃ R1 : mH → Prop, RUNM G l 12 mX3_beginTurn [.ref r] h (fun v h' => v = some (.int (J (q : Int))) ∧ R1 h') ∧ (∀ h', R1 h' → isO3 h' r) ∧ ∀ h', R1 h' → WK G l 12 r h' (BES r pool S h0 (q : Int) c4 (s (i + 1)))) ∧
      (k = n ∨ ∀ b0 c4 h, BES r pool S h0 b0 c4 (s k) h → RUNM G l 12 mX3_beginTurn [.ref r] h (fun v h' => v = some (.int (J (-5))) ∧ h' = h))
  | 0, m, B, hM, hT, hB, h7 => ⟨0, fun _ => m, rfl, ⟨rfl, rfl⟩, Nat.le_refl _, hM.up (by omega), hT, rfl, by show m 7 ≤ m 7 + ((0 : Nat) : Int); omega, rfl, Int.le_refl _, fun i hi => absurd hi (Nat.not_lt_zero _), Or.inl rfl⟩
  | n + 1, m, B, hM, hT, hB, h7 => by
    rcases sim_tick (G := G) (l := l) hS hSr hPo hM hT (by omega) (by omega) with ⟨z, a, k⟩ | ⟨q, z, zq, m', a, a2, a3, a4, a5, a6, k⟩
    · exact ⟨0, fun _ => m, rfl, ⟨m, a, Or.inl ⟨by omega, rfl, rfl⟩⟩, by omega, hM.up (by omega), hT, rfl, by show m 7 ≤ m 7 + ((n + 1 : Nat) : Int); omega, rfl, Int.le_refl _, fun i hi => absurd hi (Nat.not_lt_zero _), Or.inr k⟩
    · obtain ⟨kk, s, s0, t1, t2, t3, t4, t5, t6, t7, t8, t9, t10⟩ := both_tickL hS hSr hPo n m' (B + 120) a2 a3 (by omega) (by omega)
      have k3 := hM.1.1.2.2.2.2.1
      refine ⟨kk + 1, fun i => match i with | 0 => m | j + 1 => s j, rfl, ⟨m', a, Or.inr ⟨by omega, kk, rfl, t1⟩⟩, by omega, t3.up (by omega), t4, by show s kk 3 = m 3; omega, by show s kk 7 ≤ _; omega, by show s kk 8 = m 8; omega, by show m 1 ≤ s kk 1; omega, fun i hi => ?_, ?_⟩
      · cases i with
        | zero =>
          intro b0 c4 h hX
          obtain ⟨R1, r1, r2, r3⟩ := k b0 c4 h hX
          rw [z] at r1
          refine ⟨q, by omega, R1, r1, r2, fun h' w => ?_⟩
          show WK G l 12 r h' (BES r pool S h0 (q : Int) c4 (s 0))
          rw [s0]; exact r3 h' w
        | succ i => exact t9 i (by omega)
      · rcases t10 with t10 | t10
        · exact Or.inl (by omega)
        · exact Or.inr t10
/-- calls of run, of a trial -/
theorem both_ticks (hS : ∀ a o, S a = some o → hGet h0 a = some o) (hSr : ∀ a, ¬ S a = none → ¬ rBlk r a) (hPo : poolOk pool) {m : Nat → Int} {B T : Int} {n : Nat} (h : All m pool B T) (hn : n ≤ 100) (hB : B ≤ 1000000000) (hT : T ≤ 900000000) :
    ∃ (k : Nat) (m' : Nat → Int), ticksR pool n m k m' ∧ k ≤ n ∧ All m' pool (B + 12000) (T + 100) ∧ m' 8 = m 8 ∧ ∀ b0 c4 h1, BES r pool S h0 b0 c4 m h1 → RUNM G l 13 mX3_tickUpTo [.ref r, .int (J (n : Int))] h1 (fun v h' => v = some (.int (J (k : Int))) ∧ ∃ b, BES r pool S h0 b c4 m' h') := by
  obtain ⟨h1, h2, h3, h4⟩ := id h
  obtain ⟨k, s, s0, t1, t2, t3, t4, t5, t6, t7, t8, t9, t10⟩ := both_tickL (G := G) (l := l) hS hSr hPo n m B h1 h2 (by omega) (by omega)
  refine ⟨k, s k, t1, t2, ⟨t3.up (by omega), t4, by omega, by omega, by rw [t7]; exact h.2.2.2.2⟩, t7, fun b0 c4 hh hX => ?_⟩
  refine cr_tickUpTo (G := G) (l := l) 12 (T := fun i h' => ∃ b, BES r pool S h0 b c4 (s i) h') (N := k) (M := (n : Int)) ⟨by omega, by omega⟩ (fun i h' w => ?_) (fun i h' hi w => ?_) ?_ ?_
  · obtain ⟨b, w⟩ := w
    exact w.o3
  · obtain ⟨b, w⟩ := w
    obtain ⟨q, hq, R1, r1, r2, r3⟩ := t9 i hi b c4 h' w
    exact ⟨(q : Int), R1, ⟨by omega, by omega⟩, by omega, r1, r2, fun h'' w => (r3 h'' w).mono (fun _ x => ⟨_, x⟩)⟩
  · rcases t10 with t10 | t10
    · exact Or.inl (by omega)
    · refine Or.inr (fun h' w => ?_)
      obtain ⟨b, w⟩ := w
      exact t10 b c4 h' w
  · exact ⟨b0, by show BES r pool S h0 b0 c4 (s 0) hh; rw [s0]; exact hX⟩
end BO
end mg_b6
section mg_b7
/-! ===== what both sides answer ===== -/
section AN
variable {m c : Nat → Int}
/-- parents, on both sides -/
def parR (m c : Nat → Int) : Prop := ∀ a : Nat, (a : Int) < m 0 → ownF c (100 + (a : Int)) = m (19 + 4 * a) ∧ m (19 + 4 * a) < a ∧ -5 ≤ m (19 + 4 * a)
theorem par_of (hN : c 1 = m 0) (h60 : m 0 ≤ 60) (hS : crS m c) (hs : ScI m) : parR m c := fun a ha => by
  rw [ownF_s (by rw [hN]; exact ha) (by omega)]
  refine ⟨(hS a ha).2.1, ?_⟩
  by_cases z : a = 0
  · subst z; rw [show 19 + 4 * 0 = 19 by omega, hs.1]; omega
  · have := ((hs.2.2 a ha).2 (by omega)).1; omega
theorem wi_up (hp : parR m c) {o : Int} (ho : 0 ≤ o) : ∀ (n k : Nat) (s : Int), s < m 0 → s < n → s < k → (wiL c o n s = true ↔ upK m o k s = o)
  | 0, k, s, _, h1, _ => by
    have z : ¬ s = o := by omega
    cases k with
    | zero => exact ⟨fun g => absurd g Bool.false_ne_true, fun g => absurd g z⟩
    | succ k => unfold upK; rw [if_neg (by omega)]; exact ⟨fun g => absurd g Bool.false_ne_true, fun g => absurd g z⟩
  | n + 1, k, s, hs, h1, h2 => by
    unfold wiL
    by_cases z : 0 ≤ s
    · cases k with
      | zero => omega
      | succ k =>
        unfold upK
        rw [if_pos z]
        by_cases e : s = o
        · rw [if_pos e, if_neg (fun g => g.2 e)]; exact ⟨fun _ => e, fun _ => rfl⟩
        · rw [if_neg e, if_pos ⟨z, e⟩]
          obtain ⟨a, rfl⟩ : ∃ a : Nat, s = a := ⟨s.toNat, by omega⟩
          obtain ⟨p1, p2, p3⟩ := hp a hs
          rw [p1, show (19 + 4 * (a : Int)).toNat = 19 + 4 * a by omega]
          exact wi_up hp ho n k _ (by omega) (by omega) (by omega)
    · rw [if_neg z]
      have z2 : ¬ s = o := by omega
      cases k with
      | zero => exact ⟨fun g => absurd g Bool.false_ne_true, fun g => absurd g z2⟩
      | succ k => unfold upK; rw [if_neg (fun g => z g.1)]; exact ⟨fun g => absurd g Bool.false_ne_true, fun g => absurd g z2⟩
theorem wi_be (hp : parR m c) {o s : Int} {C : Nat} (ho : 0 ≤ o) (hC : m 0 = (C : Int)) (h60 : C ≤ 60) (hs : s < m 0) : wiL c o 60 s = belowB m C o s := by
  have y := wi_up hp ho 60 C s hs (by omega) (by omega)
  unfold belowB
  by_cases w : upK m o C s = o
  · rw [decide_eq_true w]; exact y.mpr w
  · rw [decide_eq_false w, ← Bool.not_eq_true]; exact fun g => w (y.mp g)
theorem wi_0 (hp : parR m c) : ∀ (n : Nat) (s : Int), 0 ≤ s → s < m 0 → s < n → (∀ a : Nat, 1 ≤ a → (a : Int) < m 0 → 0 ≤ m (19 + 4 * a)) → wiL c 0 n s = true
  | 0, s, h0, _, h1, _ => by omega
  | n + 1, s, h0, hs, h1, hr => by
    unfold wiL
    rw [if_pos h0]
    by_cases e : s = 0
    · rw [if_pos e]
    · rw [if_neg e]
      obtain ⟨a, rfl⟩ : ∃ a : Nat, s = a := ⟨s.toNat, by omega⟩
      obtain ⟨p1, p2, p3⟩ := hp a hs
      rw [p1]
      exact wi_0 hp n _ (hr a (by omega) hs) (by omega) (by omega) hr
theorem sa_up (hp : parR m c) : ∀ (n k : Nat) (s : Int), s < m 0 → s < n → s < k → saL c n s = upN m k s
  | 0, k, s, _, h1, _ => by
    cases k with
    | zero => rfl
    | succ k => unfold upN; rw [if_neg (by omega)]; rfl
  | n + 1, k, s, hs, h1, h2 => by
    unfold saL
    by_cases z : 0 ≤ s
    · cases k with
      | zero => omega
      | succ k =>
        unfold upN
        rw [if_pos z, if_pos z]
        obtain ⟨a, rfl⟩ : ∃ a : Nat, s = a := ⟨s.toNat, by omega⟩
        obtain ⟨p1, p2, p3⟩ := hp a hs
        rw [p1, show (19 + 4 * (a : Int)).toNat = 19 + 4 * a by omega, sa_up hp n k _ (by omega) (by omega) (by omega)]
    · rw [if_neg z]
      cases k with
      | zero => rfl
      | succ k => unfold upN; rw [if_neg z]
/-! things held in a scope and those in it -/
theorem hw_eq (hp : parR m c) {nm : Nat → Int64} (hT : crT m c nm) {C : Nat} {i : Int} (hi : 0 ≤ i) (hC : m 0 = (C : Int)) (h60 : C ≤ 60) (hst : ∀ t : Nat, (t : Int) < m 1 → (0 ≤ m (258 + 14 * t) ∧ m (258 + 14 * t) ≤ 2) ∧ m (259 + 14 * t) < m 0) {t : Nat} (ht : (t : Int) < m 1) : hwB c i t = heldInB m C i t := by
  obtain ⟨a, b⟩ := hst t ht
  obtain ⟨t1, t2, -⟩ := hT t ht
  unfold hwB heldInB heldB
  rw [t1, t2, wi_be hp hi hC h60 b]
  by_cases z : m (258 + 14 * t) = 0
  · rw [decide_eq_true z, Bool.true_and]
    by_cases w : belowB m C i (m (259 + 14 * t)) = true
    · rw [w]; exact decide_eq_true ⟨(swT_0 a).mpr z, rfl⟩
    · rw [Bool.eq_false_iff.mpr w]; exact decide_eq_false (fun g => absurd g.2 (by decide))
  · rw [decide_eq_false z, Bool.false_and]; exact decide_eq_false (fun g => z ((swT_0 a).mp g.1))
theorem yg_end {C : Nat} {a : Int} : ∀ (n t : Nat) (f : Int), ygL m C a (n + 1) t f = if heldInB m C a (t + n) = true then ((t + n : Nat) : Int) else ygL m C a n t f
  | 0, t, f => rfl
  | n + 1, t, f => by
    have ih := yg_end (C := C) (a := a) n (t + 1) (if heldInB m C a t = true then (t : Int) else f)
    rw [show t + 1 + n = t + (n + 1) by omega] at ih
    show ygL m C a (n + 1) (t + 1) (if heldInB m C a t = true then (t : Int) else f) = _
    rw [ih]
    rfl
theorem yw_eq {i : Int} {C : Nat} : ∀ n : Nat, (∀ t, t < n → hwB c i t = heldInB m C i t) → ywL c i n = ygL m C i n 0 (-5)
  | 0, _ => rfl
  | n + 1, h => by
    rw [yg_end, Nat.zero_add]
    unfold ywL
    rw [h n (by omega), yw_eq n (fun t ht => h t (by omega))]
/-! tasks that are ready, in their order -/
theorem ra_eq {pool : Nat → Int} {S : Nat → Option mO} {g : Nat → Option Nat} (hK : crK m c) (hT : TKR m pool c S g 99) {K : Nat} (h3 : m 3 = (K : Int)) {a u : Nat} (ha : a < K) (hu : u < K) : raB c a u = rdB m a u := by
  obtain ⟨⟨-, p1, -, l1, -⟩, -⟩ := hT.2 a (by omega)
  obtain ⟨⟨-, p2, -, l2, -⟩, -⟩ := hT.2 u (by omega)
  unfold raB rdB readyB caP
  rw [p1, p2, l1, l2, (hK u (by omega)).1]
  by_cases z : m (1610 + 72 * u) = 0
  · rw [decide_eq_true z, Bool.true_and, ← Bool.decide_and]
    refine decide_eq_decide.mpr ?_
    unfold aheadP
    constructor
    · rintro ⟨-, g⟩
      by_cases e : u = a
      · subst e; omega
      · exact ⟨e, by omega⟩
    · rintro ⟨g1, g2⟩; exact ⟨z, by omega⟩
  · rw [decide_eq_false z, Bool.false_and]; exact decide_eq_false (fun g => z g.1)
theorem rp_eq {pool : Nat → Int} {S : Nat → Option mO} {g : Nat → Option Nat} (hK : crK m c) (hT : TKR m pool c S g 99) {K : Nat} (h3 : m 3 = (K : Int)) {i : Int} : ∀ n t : Nat, t + n = K → rpL c K i n t = rdO m K i n t
  | 0, t, _ => rfl
  | n + 1, t, h => by
    unfold rpL rdO
    have e1 : cnt (raB c t) K = cnt (rdB m t) K := cnt_congr _ (fun q hq => ra_eq hK hT h3 (by omega) hq)
    have e2 : (c (489 + 9 * t) = 0 ∧ cnt (raB c t) K = i) ↔ (readyB m t = true ∧ cnt (rdB m t) K = i) := by
      rw [e1, (hK t (by omega)).1]; unfold readyB; rw [decide_eq_true_iff]
    rw [rp_eq hK hT h3 n (t + 1) (by omega)]
    by_cases z : c (489 + 9 * t) = 0 ∧ cnt (raB c t) K = i
    · rw [if_pos z, if_pos (e2.mp z)]
    · rw [if_neg z, if_neg (fun g => z (e2.mpr g))]
/-! counts -/
theorem ry_eq (hK : crK m c) {K : Nat} (h3 : m 3 = (K : Int)) : cnt (ryB c) K = cnt (readyB m) K := cnt_congr _ (fun q hq => by unfold ryB readyB; rw [(hK q (by omega)).1])
end AN
/-! the entries of a scope -/
def imB (f : Nat → Int) : Nat → Int → Bool
  | 0, _ => false
  | n + 1, e => imB f n e || decide (f n = e)
theorem im_iff {f : Nat → Int} {e : Int} : ∀ n, imB f n e = true ↔ ∃ j, j < n ∧ f j = e
  | 0 => ⟨fun g => absurd g Bool.false_ne_true, fun ⟨j, h, _⟩ => absurd h (Nat.not_lt_zero _)⟩
  | n + 1 => by
    unfold imB
    rw [Bool.or_eq_true, im_iff n, decide_eq_true_iff]
    constructor
    · rintro (⟨j, a, b⟩ | b)
      · exact ⟨j, by omega, b⟩
      · exact ⟨n, by omega, b⟩
    · rintro ⟨j, a, b⟩
      by_cases z : j = n
      · subst z; exact Or.inr b
      · exact Or.inl ⟨j, by omega, b⟩
theorem cnt_im {f : Nat → Int} {N C Z : Nat} {Q : Int → Bool} (hN : N ≤ 100) (hr : ∀ j, j < Z → (∃ t : Nat, t < N ∧ f j = t) ∨ (∃ s : Nat, s < C ∧ f j = 100 + (s : Int))) (hi : ∀ j k, j < k → k < Z → ¬ f j = f k) : ∀ n, n ≤ Z → cnt (fun j => Q (f j)) n = cnt (fun t => Q (t : Int) && imB f n t) N + cnt (fun s => Q (100 + (s : Int)) && imB f n (100 + (s : Int))) C
  | 0, _ => by
    rw [cnt_zero (p := fun t => Q (t : Int) && imB f 0 t) N (fun j _ => Bool.and_false _), cnt_zero (p := fun s => Q (100 + (s : Int)) && imB f 0 (100 + (s : Int))) C (fun j _ => Bool.and_false _)]
    rfl
  | n + 1, hn => by
    have ih := cnt_im (Q := Q) hN hr hi n (by omega)
    have new : imB f n (f n) = false := by
      rw [← Bool.not_eq_true]
      intro g
      obtain ⟨j, a, b⟩ := (im_iff n).mp g
      exact hi j n a (by omega) b
    have at' : ∀ e, ¬ f n = e → imB f (n + 1) e = imB f n e := fun e he => by
      show (imB f n e || decide (f n = e)) = imB f n e
      rw [decide_eq_false he, Bool.or_false]
    have at1 : imB f (n + 1) (f n) = true := by
      show (imB f n (f n) || decide (f n = f n)) = true
      rw [decide_eq_true rfl, Bool.or_true]
    rw [cnt_S]
    by_cases q : Q (f n) = true
    · rw [if_pos q, ih]
      rcases hr n (by omega) with ⟨t, ht, e⟩ | ⟨t, ht, e⟩
      · have y := cnt_upd (p := fun t => Q (t : Int) && imB f n t) (p' := fun t => Q (t : Int) && imB f (n + 1) t) (t := t) (M := N) (by show (Q (t : Int) && imB f n t) = false; rw [← e, new, Bool.and_false]) (by show (Q (t : Int) && imB f (n + 1) t) = true; rw [← e, at1, q]; rfl) (fun u _ hu => by show (Q (u : Int) && imB f n u) = (Q (u : Int) && imB f (n + 1) u); rw [at' u (by omega)]) N (Nat.le_refl _)
        have y2 : cnt (fun s => Q (100 + (s : Int)) && imB f (n + 1) (100 + (s : Int))) C = cnt (fun s => Q (100 + (s : Int)) && imB f n (100 + (s : Int))) C := cnt_congr _ (fun u _ => by show (Q (100 + (u : Int)) && imB f (n + 1) (100 + (u : Int))) = _; rw [at' _ (by omega)])
        rw [if_pos ht] at y
        rw [y, y2]; omega
      · have y := cnt_upd (p := fun s => Q (100 + (s : Int)) && imB f n (100 + (s : Int))) (p' := fun s => Q (100 + (s : Int)) && imB f (n + 1) (100 + (s : Int))) (t := t) (M := C) (by show (Q (100 + (t : Int)) && imB f n (100 + (t : Int))) = false; rw [← e, new, Bool.and_false]) (by show (Q (100 + (t : Int)) && imB f (n + 1) (100 + (t : Int))) = true; rw [← e, at1, q]; rfl) (fun u _ hu => by show (Q (100 + (u : Int)) && imB f n (100 + (u : Int))) = (Q (100 + (u : Int)) && imB f (n + 1) (100 + (u : Int))); rw [at' _ (by omega)]) C (Nat.le_refl _)
        have y2 : cnt (fun t => Q (t : Int) && imB f (n + 1) t) N = cnt (fun t => Q (t : Int) && imB f n t) N := cnt_congr _ (fun u hu => by show (Q (u : Int) && imB f (n + 1) u) = _; rw [at' _ (by omega)])
        rw [if_pos ht] at y
        rw [y, y2]; omega
    · have y1 : cnt (fun t => Q (t : Int) && imB f (n + 1) t) N = cnt (fun t => Q (t : Int) && imB f n t) N := cnt_congr _ (fun u hu => by
        show (Q (u : Int) && imB f (n + 1) u) = (Q (u : Int) && imB f n u)
        by_cases z : f n = (u : Int)
        · rw [← z, Bool.eq_false_iff.mpr q, Bool.false_and, Bool.false_and]
        · rw [at' _ z])
      have y2 : cnt (fun s => Q (100 + (s : Int)) && imB f (n + 1) (100 + (s : Int))) C = cnt (fun s => Q (100 + (s : Int)) && imB f n (100 + (s : Int))) C := cnt_congr _ (fun u hu => by
        show (Q (100 + (u : Int)) && imB f (n + 1) (100 + (u : Int))) = (Q (100 + (u : Int)) && imB f n (100 + (u : Int)))
        by_cases z : f n = 100 + (u : Int)
        · rw [← z, Bool.eq_false_iff.mpr q, Bool.false_and, Bool.false_and]
        · rw [at' _ z])
      rw [if_neg q, ih, y1, y2]; omega
theorem en_eq {m pool c : Nat → Int} {S : Nat → Option mO} {C : Nat → Nat → Int} {nm : Nat → Int64} {g : Nat → Option Nat} (h : CR m pool S c C nm g) (hok : mOk m) (hs : ScI m) (hnc : NC m) (hst : ∀ t : Nat, (t : Int) < m 1 → 0 ≤ m (258 + 14 * t) ∧ m (258 + 14 * t) ≤ 2) {a : Int} (ha : 0 ≤ a) {Z N K : Nat} (hZ : c 10 = (Z : Int)) (hN : m 1 = (N : Int)) (hK : m 0 = (K : Int)) : cnt (enB c (C 2) a) Z = entsN m a N K := by
  have k0 := hok.2.1
  have k1 := hok.2.2.1
  obtain ⟨n0, T, A, -, -, ⟨Z', e0⟩, -⟩ := h
  obtain ⟨e1, e2, e3, e4, e5, e6⟩ := e0
  obtain rfl : Z' = Z := by omega
  have ran : ∀ j, j < Z' → (∃ t : Nat, t < N ∧ C 2 j = t) ∨ (∃ s : Nat, s < K ∧ C 2 j = 100 + (s : Int)) := fun j hj => by
    rcases e3 j hj with ⟨t, x, y, -⟩ | ⟨s, x, -, y, -⟩
    · exact Or.inl ⟨t, by omega, x⟩
    · exact Or.inr ⟨s, by omega, x⟩
  have inj : ∀ j k, j < k → k < Z' → ¬ C 2 j = C 2 k := fun j k x y z => by
    have := e4 j k x y; rw [z] at this; omega
  have y := cnt_im (f := C 2) (Q := fun e => decide (ownF c e = a)) (N := N) (C := K) (by omega) ran inj Z' (Nat.le_refl _)
  have z : cnt (enB c (C 2) a) Z' = cnt (fun j => decide (ownF c (C 2 j) = a)) Z' := rfl
  rw [z, y]
  unfold entsN
  have im : ∀ e, imB (C 2) Z' e = true ↔ nodP m e := fun e => by
    rw [im_iff]
    constructor
    · rintro ⟨j, x, rfl⟩; exact e3 j x
    · exact e5 e
  have y1 : cnt (fun t => decide (ownF c (t : Int) = a) && imB (C 2) Z' t) N = cnt (entTB m a) N := cnt_congr _ (fun t ht => by
    show (decide (ownF c (t : Int) = a) && imB (C 2) Z' t) = entTB m a t
    have ht1 : (t : Int) < m 1 := by omega
    rw [ownF_t (by rw [n0.1]; exact ht1) (by omega), (T t ht1).2.1]
    have i2 := (im (t : Int)).trans (nodP_t ht1 k1.2)
    have r := hst t ht1
    have q := hnc t ht1
    unfold entTB
    by_cases w : m (258 + 14 * t) = 0
    · rw [i2.mpr (by omega), Bool.and_true]
      refine decide_eq_decide.mpr ⟨fun x => ⟨w, x⟩, fun x => x.2⟩
    · rw [Bool.eq_false_iff.mpr (fun x => i2.mp x (by omega)), Bool.and_false]
      exact (decide_eq_false (fun x => w x.1)).symm)
  have y2 : cnt (fun s => decide (ownF c (100 + (s : Int)) = a) && imB (C 2) Z' (100 + (s : Int))) K = cnt (entSC m a) K := cnt_congr _ (fun s hs' => by
    show (decide (ownF c (100 + (s : Int)) = a) && imB (C 2) Z' (100 + (s : Int))) = entSC m a s
    have hs1 : (s : Int) < m 0 := by omega
    rw [ownF_s (by rw [n0.2.1]; exact hs1) (by omega), (A s hs1).2.1]
    have i2 := (im (100 + (s : Int))).trans (nodP_s (a := s) k1.2)
    unfold entSC entSB
    by_cases w : 1 ≤ s
    · rw [decide_eq_true w, Bool.true_and]
      by_cases v : m (18 + 4 * s) = 2
      · rw [Bool.eq_false_iff.mpr (fun x => (i2.mp x).2.2 v), Bool.and_false]
        exact (decide_eq_false (fun x => x.1 v)).symm
      · rw [i2.mpr ⟨w, hs1, v⟩, Bool.and_true]
        exact decide_eq_decide.mpr ⟨fun x => ⟨v, x⟩, fun x => x.2⟩
    · rw [decide_eq_false w, Bool.false_and, Bool.eq_false_iff.mpr (fun x => w (i2.mp x).1), Bool.and_false])
  rw [y1, y2]
end mg_b7
section mg_b8
/-! ===== the faults that were gathered, on both sides ===== -/
theorem po_at {b : Nat} {f : Nat → Int} {i k : Int} : ∀ (n t : Nat), cnt (gbB b f i) t ≤ k → k < cnt (gbB b f i) (t + n) → ∃ p : Nat, poL b f i k n t = p ∧ (t ≤ p ∧ p < t + n) ∧ gbB b f i p = true ∧ cnt (gbB b f i) p = k
  | 0, t, h1, h2 => by rw [Nat.add_zero] at h2; omega
  | n + 1, t, h1, h2 => by
    unfold poL
    by_cases z : gbB b f i t = true ∧ cnt (gbB b f i) t = k
    · rw [if_pos z]; exact ⟨t, rfl, ⟨Nat.le_refl _, by omega⟩, z.1, z.2⟩
    · rw [if_neg z]
      have h3 : cnt (gbB b f i) (t + 1) ≤ k := by
        rw [cnt_S]
        by_cases w : gbB b f i t = true
        · have : ¬ cnt (gbB b f i) t = k := fun g => z ⟨w, g⟩
          rw [if_pos w]; omega
        · rw [if_neg w]; omega
      obtain ⟨p, e, x, y⟩ := po_at n (t + 1) h3 (by rw [show t + 1 + n = t + (n + 1) by omega]; exact h2)
      exact ⟨p, e, ⟨by omega, by omega⟩, y⟩
theorem po_no {b : Nat} {f : Nat → Int} {i k : Int} : ∀ (n t : Nat), (∀ j, t ≤ j → j < t + n → ¬ cnt (gbB b f i) j = k) ∨ cnt (gbB b f i) (t + n) ≤ k → poL b f i k n t = -1
  | 0, t, _ => rfl
  | n + 1, t, h => by
    unfold poL
    have nz : ¬ (gbB b f i t = true ∧ cnt (gbB b f i) t = k) := fun g => by
      rcases h with h | h
      · exact h t (Nat.le_refl _) (by omega) g.2
      · have a := cnt_mono (p := gbB b f i) (show t + 1 ≤ t + (n + 1) by omega)
        rw [cnt_S, if_pos g.1] at a
        omega
    rw [if_neg nz]
    refine po_no n (t + 1) ?_
    rcases h with h | h
    · exact Or.inl (fun j a b => h j (by omega) (by omega))
    · exact Or.inr (by rw [show t + 1 + n = t + (n + 1) by omega]; exact h)
theorem cnt_two {p : Nat → Bool} {a b : Nat} (ha : p a = true) (hb : p b = true) (h : cnt p a = cnt p b) : a = b := by
  rcases Nat.lt_trichotomy a b with x | x | x
  · have y := cnt_mono (p := p) (show a + 1 ≤ b by omega)
    rw [cnt_S, if_pos ha] at y; omega
  · exact x
  · have y := cnt_mono (p := p) (show b + 1 ≤ a by omega)
    rw [cnt_S, if_pos hb] at y; omega
theorem fa_at {m : Nat → Int} {t : Int} {J : Nat} (hJ : faultB m t J = true) : ∀ (n j : Nat) (i : Int), j ≤ J → J < j + n → cnt (faultB m t) J = cnt (faultB m t) j + i → faJ m t n j i = J
  | 0, j, i, h1, h2, _ => by omega
  | n + 1, j, i, h1, h2, h3 => by
    have hJ' : m (2328 + 3 * J) = t := of_decide_eq_true hJ
    unfold faJ
    by_cases e : j = J
    · subst e
      rw [if_pos ⟨hJ', by omega⟩]
    · have mo := cnt_mono (p := faultB m t) (show j + 1 ≤ J by omega)
      rw [cnt_S] at mo
      by_cases w : m (2328 + 3 * j) = t
      · rw [if_pos (show faultB m t j = true from decide_eq_true w)] at mo
        rw [if_neg (fun g => by have := g.2; omega), if_pos w]
        refine fa_at hJ n (j + 1) (i - 1) (by omega) (by omega) ?_
        rw [cnt_S, if_pos (show faultB m t j = true from decide_eq_true w)]; omega
      · rw [if_neg (fun g => w g.1), if_neg w]
        refine fa_at hJ n (j + 1) (i - 0) (by omega) (by omega) ?_
        rw [cnt_S, if_neg (show ¬ faultB m t j = true from fun g => w (of_decide_eq_true g))]; omega
theorem nat0 {i : Nat} : (0 : Int) ≤ (i : Int) := by omega
theorem fnF_0 {c f g : Nat → Int} {F : Nat} {i k : Int} (h : ofF c i = 0) : fnF c f g F i k = atF 90 (F : Int) g (pwF c f F i k) ∧ fgF c f g F i k = if pwF c f F i k < 0 then -1 else atF 90 (F : Int) g (pwF c f F i k) := by
  unfold fnF fgF
  rw [if_neg (show ¬ (¬ ofF c i = 0 ∧ k = 0) from fun z => z.1 h), if_neg (show ¬ (¬ ofF c i = 0 ∧ k = 0) from fun z => z.1 h), if_pos h]
  exact ⟨rfl, rfl⟩
theorem fnF_1 {c f g : Nat → Int} {F : Nat} {i : Int} (h : ¬ ofF c i = 0) : fnF c f g F i 0 = ofF c i ∧ fgF c f g F i 0 = -1 := by
  unfold fnF fgF
  rw [if_pos (show ¬ ofF c i = 0 ∧ (0 : Int) = 0 from ⟨h, rfl⟩), if_pos (show ¬ ofF c i = 0 ∧ (0 : Int) = 0 from ⟨h, rfl⟩)]
  exact ⟨rfl, rfl⟩
theorem fnF_2 {c f g : Nat → Int} {F : Nat} {i k : Int} (h : ¬ ofF c i = 0) (hk : ¬ k = 0) : fnF c f g F i k = atF 90 (F : Int) g (pwF c f F i (k - 1)) ∧ fgF c f g F i k = if pwF c f F i (k - 1) < 0 then -1 else atF 90 (F : Int) g (pwF c f F i (k - 1)) := by
  unfold fnF fgF
  rw [if_neg (show ¬ (¬ ofF c i = 0 ∧ k = 0) from fun z => hk z.2), if_neg (show ¬ (¬ ofF c i = 0 ∧ k = 0) from fun z => hk z.2), if_neg h]
  exact ⟨rfl, rfl⟩
theorem fv_call {m : Nat → Int} {N : Nat} {k w : Int} : faultAtV m N (-1) k w = m (2688 + 2 * k + w).toNat := by
  unfold faultAtV; rw [if_neg (show ¬ (0 : Int) ≤ -1 by decide)]
theorem fv_0 {m : Nat → Int} {N i : Nat} {k w : Int} (o : m (1618 + 72 * i) = 0) : faultAtV m N (i : Int) k w = m (2329 + 3 * (faJ m i N 0 k : Int) + w).toNat := by
  have e : m (1618 + 72 * (i : Int)).toNat = 0 := by rw [show (1618 + 72 * (i : Int)).toNat = 1618 + 72 * i by omega]; exact o
  unfold faultAtV; rw [if_pos (nat0 (i := i)), if_pos e]
theorem fv_1 {m : Nat → Int} {N i : Nat} {w : Int} (o : ¬ m (1618 + 72 * i) = 0) : faultAtV m N (i : Int) 0 w = if w = 0 then m (1618 + 72 * i) else -1 := by
  have q : (1618 + 72 * (i : Int)).toNat = 1618 + 72 * i := by omega
  have e : ¬ m (1618 + 72 * (i : Int)).toNat = 0 := by rw [q]; exact o
  unfold faultAtV; rw [if_pos (nat0 (i := i)), if_neg e, if_pos (show (0 : Int) = 0 from rfl), q]
theorem fv_2 {m : Nat → Int} {N i : Nat} {k w : Int} (o : ¬ m (1618 + 72 * i) = 0) (hk : ¬ k = 0) : faultAtV m N (i : Int) k w = m (2329 + 3 * (faJ m i N 0 (k - 1) : Int) + w).toNat := by
  have e : ¬ m (1618 + 72 * (i : Int)).toNat = 0 := by rw [show (1618 + 72 * (i : Int)).toNat = 1618 + 72 * i by omega]; exact o
  unfold faultAtV; rw [if_pos (nat0 (i := i)), if_neg e, if_neg hk]
theorem mv_task {m : Nat → Int} {N i : Nat} : manyV m N (i : Int) = cnt (faultB m i) N + (if m (1618 + 72 * i) = 0 then 0 else 1) := by
  unfold manyV; rw [if_pos (nat0 (i := i)), show (1618 + 72 * (i : Int)).toNat = 1618 + 72 * i by omega]
theorem mv_call {m : Nat → Int} {N : Nat} : manyV m N (-1) = m 5 := by unfold manyV; rw [if_neg (show ¬ (0 : Int) ≤ -1 by decide)]
section FL
variable {m pool c : Nat → Int} {S : Nat → Option mO} {C : Nat → Nat → Int} {nm : Nat → Int64} {g : Nat → Option Nat}
/-- a task's own fault -/
theorem of_eq (hC : CR m pool S c C nm g) (hT : TKR m pool c S g 99) (hok : mOk m) {i : Nat} (hi : (i : Int) < m 3) : ofF c (i : Int) = m (1618 + 72 * i) := by
  obtain ⟨n0, -⟩ := hC
  have k3 := hok.2.2.2.2.1
  obtain ⟨⟨-, -, -, -, -, e, -⟩, -⟩ := hT.2 i hi
  unfold ofF
  rw [if_pos ⟨by omega, by rw [n0.2.2.1]; exact hi, by omega⟩, show ((i : Int)).toNat = i by omega]
  exact e
theorem of_call : ofF c (-1) = 0 := by
  unfold ofF
  rw [if_neg]
  intro w
  have := w.1
  omega
/-- how many -/
theorem fc_eq (hC : CR m pool S c C nm g) (hT : TKR m pool c S g 99) (hok : mOk m) {t : Int} (ht : t = -1 ∨ (0 ≤ t ∧ t ≤ m 3 - 1)) {N F : Nat} (hN : m 4 = (N : Int)) (hF : c 11 = (F : Int)) : fcF c (C 5) F t = manyV m N t := by
  rcases ht with rfl | ht
  · rw [fcF_call hC hF, mv_call]
  · obtain ⟨i, rfl⟩ : ∃ i : Nat, t = i := ⟨t.toNat, by omega⟩
    have oe := of_eq hC hT hok (i := i) (by omega)
    obtain ⟨-, -, -, -, -, -, ⟨F', f0⟩, -⟩ := id hC
    obtain rfl : F' = F := by have := f0.1.1; omega
    have b0 : b0F c (i : Int) = 0 := by unfold b0F; rw [if_neg (by omega)]
    rw [mv_task]
    unfold fcF
    rw [oe, b0, ← flt_cnt f0 i F' (Nat.le_refl _), ← f0.2.2.2.1, hN, show ((N : Int)).toNat = N by omega]
/-- which: a place in the class's rows and one in the reference's -/
theorem pw_task (hC : CR m pool S c C nm g) {i : Nat} {k : Int} {N F : Nat} (hN : m 4 = (N : Int)) (hF : c 11 = (F : Int)) (hk : 0 ≤ k ∧ k < cnt (faultB m i) N) : ∃ p : Nat, pwF c (C 5) F (i : Int) k = p ∧ p < F ∧ C 3 p = m (2329 + 3 * faJ m i N 0 k) ∧ C 4 p = m (2330 + 3 * faJ m i N 0 k) := by
  obtain ⟨-, -, -, -, -, -, ⟨F', f0⟩, -⟩ := id hC
  obtain rfl : F' = F := by have := f0.1.1; omega
  have b0 : b0F c (i : Int) = 0 := by unfold b0F; rw [if_neg (by omega)]
  have tot := flt_cnt f0 i F' (Nat.le_refl _)
  rw [← f0.2.2.2.1, hN, show ((N : Int)).toNat = N by omega] at tot
  unfold pwF
  rw [b0, Nat.sub_zero]
  obtain ⟨p, e, ⟨-, hp⟩, gp, cp⟩ := po_at (b := 0) (f := C 5) (i := (i : Int)) (k := k) F' 0 (by rw [show cnt (gbB 0 (C 5) (i : Int)) 0 = 0 from rfl]; exact hk.1) (by rw [Nat.zero_add, ← tot]; exact hk.2)
  rw [Nat.zero_add] at hp
  have g5 : C 5 p = (i : Int) := (of_decide_eq_true gp).2
  obtain ⟨x1, x2, x3⟩ := f0.2.2.2.2.1 p hp (by omega)
  have ca := flt_cnt f0 i p (by omega)
  have r := cnt_r (faB (C 5)) p
  have r2 : cnt (faB (C 5)) p + 1 ≤ cnt (faB (C 5)) F' := by
    have y := cnt_mono (p := faB (C 5)) (show p + 1 ≤ F' by omega)
    rw [cnt_S, if_pos (show faB (C 5) p = true from decide_eq_true (by omega))] at y
    exact y
  have fj : faJ m (i : Int) N 0 k = (cnt (faB (C 5)) p).toNat := fa_at (decide_eq_true (by rw [x1]; exact g5)) N 0 k (Nat.zero_le _) (by have := f0.2.2.2.1; omega) (by rw [ca, cp]; show k = 0 + k; omega)
  refine ⟨p, e, hp, ?_, ?_⟩
  · rw [fj]; exact x2.symm
  · rw [fj]; exact x3.symm
theorem pw_call (hC : CR m pool S c C nm g) {k : Int} {F : Nat} (hF : c 11 = (F : Int)) (hk : 0 ≤ k ∧ k < m 5) : ∃ p : Nat, pwF c (C 5) F (-1) k = p ∧ p < F ∧ C 3 p = m (2688 + 2 * k.toNat) ∧ C 4 p = m (2689 + 2 * k.toNat) := by
  obtain ⟨-, -, -, -, -, -, ⟨F', f0⟩, -⟩ := id hC
  obtain rfl : F' = F := by have := f0.1.1; omega
  have b0 : b0F c (-1) = (c 4).toNat := by unfold b0F; rw [if_pos rfl]
  have c4 := f0.2.2.1
  unfold pwF
  rw [b0]
  obtain ⟨p, e, ⟨hp1, hp⟩, gp, cp⟩ := po_at (b := (c 4).toNat) (f := C 5) (i := -1) (k := k) (F' - (c 4).toNat) (c 4).toNat (by rw [gbB_0]; exact hk.1) (by rw [show (c 4).toNat + (F' - (c 4).toNat) = F' by omega, ← f0.2.2.2.2.2.1]; exact hk.2)
  have g5 : C 5 p = -1 := (of_decide_eq_true gp).2
  obtain ⟨x1, x2⟩ := f0.2.2.2.2.2.2 p (by omega) (by omega) g5
  rw [cp] at x1 x2
  exact ⟨p, e, by omega, x1.symm, x2.symm⟩
/-- none at that place -/
theorem pw_none (hC : CR m pool S c C nm g) (hT : TKR m pool c S g 99) (hok : mOk m) {t : Int} (ht : t = -1 ∨ (0 ≤ t ∧ t ≤ m 3 - 1)) {N F : Nat} (hN : m 4 = (N : Int)) (hF : c 11 = (F : Int)) (h0 : manyV m N t = 0) : ofF c t = 0 ∧ pwF c (C 5) F t 0 = -1 := by
  have fc := fc_eq hC hT hok ht hN hF
  rw [h0] at fc
  unfold fcF at fc
  have r := cnt_r (gbB (b0F c t) (C 5) t) F
  have z : ofF c t = 0 := by
    by_cases w : ofF c t = 0
    · exact w
    · rw [if_neg w] at fc; omega
  rw [if_pos z] at fc
  refine ⟨z, ?_⟩
  unfold pwF
  refine po_no _ _ (Or.inr ?_)
  obtain ⟨-, -, -, -, -, -, ⟨F', f0⟩, -⟩ := id hC
  have c4 := f0.2.2.1
  have e11 := f0.1.1
  have b : b0F c t ≤ F := by unfold b0F; split <;> omega
  rw [show b0F c t + (F - b0F c t) = F by omega]
  omega
/-- a fault's number, on both sides -/
theorem fn_eq (hC : CR m pool S c C nm g) (hT : TKR m pool c S g 99) (hok : mOk m) {t k : Int} (ht : t = -1 ∨ (0 ≤ t ∧ t ≤ m 3 - 1)) {N F : Nat} (hN : m 4 = (N : Int)) (hF : c 11 = (F : Int)) (hk : 0 ≤ k ∧ k < manyV m N t) : fnF c (C 5) (C 3) F t k = faultAtV m N t k 0 ∧ fgF c (C 5) (C 4) F t k = faultAtV m N t k 1 := by
  have k2 := hok.2.2.2.1
  obtain ⟨-, -, -, -, -, -, ⟨F', f0⟩, -⟩ := id hC
  obtain rfl : F' = F := by have := f0.1.1; omega
  have fb := f0.2.1
  have at' : ∀ {p : Nat} {f : Nat → Int}, p < F' → atF 90 (F' : Int) f (p : Int) = f p := fun {p f} hp => by
    unfold atF
    rw [if_pos ⟨by omega, by omega, by omega⟩]; rfl
  rcases ht with rfl | ht
  · rw [mv_call] at hk
    obtain ⟨p, e, hp, x1, x2⟩ := pw_call hC hF hk
    rw [(fnF_0 of_call).1, (fnF_0 of_call).2, fv_call, fv_call, e, at' hp, if_neg (show ¬ (p : Int) < 0 by omega), at' hp, x1, x2]
    refine ⟨?_, ?_⟩ <;> congr 1 <;> omega
  · obtain ⟨i, rfl⟩ : ∃ i : Nat, t = i := ⟨t.toNat, by omega⟩
    have oe := of_eq hC hT hok (i := i) (by omega)
    rw [mv_task] at hk
    by_cases o : m (1618 + 72 * i) = 0
    · rw [if_pos o] at hk
      obtain ⟨p, e, hp, x1, x2⟩ := pw_task hC (i := i) (k := k) hN hF ⟨hk.1, by omega⟩
      rw [(fnF_0 (oe.trans o)).1, (fnF_0 (oe.trans o)).2, fv_0 o, fv_0 o, e, at' hp, if_neg (show ¬ (p : Int) < 0 by omega), at' hp, x1, x2]
      refine ⟨?_, ?_⟩ <;> congr 1 <;> omega
    · rw [if_neg o] at hk
      have o' : ¬ ofF c (i : Int) = 0 := by rw [oe]; exact o
      by_cases z : k = 0
      · subst z
        rw [(fnF_1 o').1, (fnF_1 o').2, fv_1 o, fv_1 o, oe, if_pos (show (0 : Int) = 0 from rfl), if_neg (show ¬ (1 : Int) = 0 by decide)]
        exact ⟨rfl, rfl⟩
      · obtain ⟨p, e, hp, x1, x2⟩ := pw_task hC (i := i) (k := k - 1) hN hF ⟨by omega, by omega⟩
        rw [(fnF_2 o' z).1, (fnF_2 o' z).2, fv_2 o z, fv_2 o z, e, at' hp, if_neg (show ¬ (p : Int) < 0 by omega), at' hp, x1, x2]
        refine ⟨?_, ?_⟩ <;> congr 1 <;> omega
/-- where there is none -/
theorem fn_none (hC : CR m pool S c C nm g) (hT : TKR m pool c S g 99) (hok : mOk m) {t : Int} (ht : t = -1 ∨ (0 ≤ t ∧ t ≤ m 3 - 1)) {N F : Nat} (hN : m 4 = (N : Int)) (hF : c 11 = (F : Int)) (h0 : manyV m N t = 0) : fnF c (C 5) (C 3) F t 0 = 0 ∧ fgF c (C 5) (C 4) F t 0 = -1 := by
  obtain ⟨a, b⟩ := pw_none hC hT hok ht hN hF h0
  rw [(fnF_0 a).1, (fnF_0 a).2, b, if_pos (show (-1 : Int) < 0 by decide)]
  refine ⟨?_, rfl⟩
  unfold atF
  rw [if_neg (fun z => by have := z.1; omega)]
end FL
end mg_b8
section mg_b9
/-! ===== the entries of a scope one by one, on both sides ===== -/
theorem cnt_at {P : Nat → Bool} {k : Int} (h0 : 0 ≤ k) : ∀ n, k < cnt P n → ∃ p, p < n ∧ P p = true ∧ cnt P p = k
  | 0, h => by have : cnt P 0 = 0 := rfl; omega
  | n + 1, h => by
    by_cases z : k < cnt P n
    · obtain ⟨p, a, b⟩ := cnt_at h0 n z
      exact ⟨p, by omega, b⟩
    · rw [cnt_S] at h
      by_cases w : P n = true
      · rw [if_pos w] at h; exact ⟨n, by omega, w, by omega⟩
      · rw [if_neg w] at h; omega
section EN
variable {c f : Nat → Int} {i k : Int}
theorem ey_at {p : Nat} (hp : enB c f i p = true) (hk : cnt (enB c f i) p = k) : ∀ n t, t ≤ p → p < t + n → eyL c f i k n t = f p
  | 0, t, a, b => by omega
  | n + 1, t, a, b => by
    unfold eyL
    by_cases z : enB c f i t = true ∧ cnt (enB c f i) t = k
    · rw [if_pos z, cnt_two z.1 hp (z.2.trans hk.symm)]
    · have tp : ¬ t = p := fun e => z (by rw [e]; exact ⟨hp, hk⟩)
      rw [if_neg z]
      exact ey_at hp hk n (t + 1) (by omega) (by omega)
theorem ey_no : ∀ n t, (k < 0 ∨ cnt (enB c f i) (t + n) ≤ k) → eyL c f i k n t = -1
  | 0, t, _ => rfl
  | n + 1, t, h => by
    unfold eyL
    have nz : ¬ (enB c f i t = true ∧ cnt (enB c f i) t = k) := fun g => by
      have r := cnt_r (enB c f i) t
      rcases h with h | h
      · omega
      · have a := cnt_mono (p := enB c f i) (show t + 1 ≤ t + (n + 1) by omega)
        rw [cnt_S, if_pos g.1] at a
        omega
    rw [if_neg nz]
    refine ey_no n (t + 1) ?_
    rcases h with h | h
    · exact Or.inl h
    · exact Or.inr (by rw [show t + 1 + n = t + (n + 1) by omega]; exact h)
end EN
theorem stV_I {m : Nat → Int} {e : Nat} : stampV m e = stampI m (e : Int) := by
  unfold stampV stampI
  by_cases z : e < 100
  · rw [if_pos z, if_pos (by omega)]; congr 1
  · rw [if_neg z, if_neg (by omega)]; congr 1; omega
theorem ea_max {m : Nat → Int} {N C : Nat} {a st : Int} : ∀ (n e : Nat) (f : Int), -5 ≤ f → (f < 0 ∨ (entryP m N C a f.toNat ∧ stampV m f.toNat < st)) →
    (eaL m N C a st n e f = f ∨ 0 ≤ eaL m N C a st n e f) ∧ (0 ≤ eaL m N C a st n e f → entryP m N C a (eaL m N C a st n e f).toNat ∧ stampV m (eaL m N C a st n e f).toNat < st) ∧ (0 ≤ f → 0 ≤ eaL m N C a st n e f ∧ stampV m f.toNat ≤ stampV m (eaL m N C a st n e f).toNat) ∧
    ∀ u, e ≤ u → u < e + n → entryP m N C a u → stampV m u < st → 0 ≤ eaL m N C a st n e f ∧ stampV m u ≤ stampV m (eaL m N C a st n e f).toNat
  | 0, e, f, h5, hf => ⟨Or.inl rfl, fun g => by
      rcases hf with x | x
      · exact absurd g (by show ¬ 0 ≤ f; omega)
      · exact x, fun g => ⟨g, Int.le_refl _⟩, fun u x y => by omega⟩
  | n + 1, e, f, h5, hf => by
    unfold eaL
    by_cases z : entryP m N C a e ∧ stampV m e < st ∧ (f < 0 ∨ stampV m f.toNat < stampV m e)
    · rw [if_pos z]
      obtain ⟨a1, a2, a3, a4⟩ := ea_max (N := N) (C := C) (a := a) (st := st) n (e + 1) (e : Int) (by omega) (Or.inr (by rw [show ((e : Int)).toNat = e by omega]; exact ⟨z.1, z.2.1⟩))
      rw [show ((e : Int)).toNat = e by omega] at a3
      obtain ⟨b1, b2⟩ := a3 (by omega)
      refine ⟨Or.inr b1, a2, fun g => ⟨b1, ?_⟩, fun u x y z1 z2 => ?_⟩
      · rcases z.2.2 with w | w <;> omega
      · by_cases w : u = e
        · subst w; exact ⟨b1, b2⟩
        · exact a4 u (by omega) (by omega) z1 z2
    · rw [if_neg z]
      obtain ⟨a1, a2, a3, a4⟩ := ea_max (N := N) (C := C) (a := a) (st := st) n (e + 1) f h5 hf
      refine ⟨a1, a2, a3, fun u x y z1 z2 => ?_⟩
      by_cases w : u = e
      · subst w
        have w2 : 0 ≤ f ∧ ¬ stampV m f.toNat < stampV m u := by
          refine ⟨?_, fun g => z ⟨z1, z2, Or.inr g⟩⟩
          by_cases q : 0 ≤ f
          · exact q
          · exact absurd ⟨z1, z2, Or.inl (by omega)⟩ z
        obtain ⟨b1, b2⟩ := a3 w2.1
        exact ⟨b1, by omega⟩
      · exact a4 u (by omega) (by omega) z1 z2
section EV
variable {m pool c : Nat → Int} {S : Nat → Option mO} {C : Nat → Nat → Int} {nm : Nat → Int64} {g : Nat → Option Nat} {a : Int} {Z N K : Nat}
/-- the entries of both sides -/
def entE (m c f : Nat → Int) (N K Z : Nat) (a : Int) : Prop := (∀ j, j < Z → 0 ≤ f j ∧ f j < 160) ∧ (∀ j k, j < k → k < Z → stampI m (f j) < stampI m (f k)) ∧ (∀ j, j < Z → enB c f a j = true → entryP m N K a (f j).toNat) ∧ (∀ e : Nat, entryP m N K a e → ∃ j, j < Z ∧ f j = e ∧ enB c f a j = true) ∧ ∀ j, j < Z → stampI m (f j) ≤ m 6
theorem ent_of (h : CR m pool S c C nm g) (hok : mOk m) (hs : ScI m) (hnc : NC m) (hst : ∀ t : Nat, (t : Int) < m 1 → 0 ≤ m (258 + 14 * t) ∧ m (258 + 14 * t) ≤ 2) (hZ : c 10 = (Z : Int)) (hN : m 1 = (N : Int)) (hK : m 0 = (K : Int)) : entE m c (C 2) N K Z a := by
  have k0 := hok.2.1
  have k1 := hok.2.2.1
  obtain ⟨n0, T, A, -, -, ⟨Z', e0⟩, -⟩ := h
  obtain ⟨e1, e2, e3, e4, e5, e6⟩ := e0
  obtain rfl : Z' = Z := by omega
  have ot : ∀ t : Nat, (t : Int) < m 1 → ownF c (t : Int) = m (259 + 14 * t) := fun t ht => by rw [ownF_t (by rw [n0.1]; exact ht) (by omega), (T t ht).2.1]
  have os : ∀ s : Nat, (s : Int) < m 0 → ownF c (100 + (s : Int)) = m (19 + 4 * s) := fun s hs' => by rw [ownF_s (by rw [n0.2.1]; exact hs') (by omega), (A s hs').2.1]
  refine ⟨fun j hj => ?_, e4, fun j hj hb => ?_, fun e he => ?_, fun j hj => e6 _ (e3 j hj)⟩
  · rcases e3 j hj with ⟨t, x, y, -⟩ | ⟨s, x, -, y, -⟩ <;> omega
  · have hb : ownF c (C 2 j) = a := of_decide_eq_true hb
    rcases e3 j hj with ⟨t, x, y, z⟩ | ⟨s, x, z1, y, z2⟩
    · rw [x, ot t y] at hb
      rw [x, show ((t : Int)).toNat = t by omega]
      unfold entryP
      rw [if_pos (by omega)]
      have r := hst t y
      have q := hnc t y
      exact ⟨by omega, by omega, hb⟩
    · rw [x, os s y] at hb
      rw [x, show (100 + (s : Int)).toNat = 100 + s by omega]
      unfold entryP
      rw [if_neg (by omega), show 100 + s - 100 = s by omega]
      exact ⟨by omega, by omega, z2, hb⟩
  · unfold entryP at he
    by_cases w : e < 100
    · rw [if_pos w] at he
      have ht : (e : Int) < m 1 := by omega
      obtain ⟨j, x, y⟩ := e5 (e : Int) (Or.inl ⟨e, rfl, ht, by omega⟩)
      exact ⟨j, x, y, decide_eq_true (by rw [y, ot e ht]; exact he.2.2)⟩
    · rw [if_neg w] at he
      obtain ⟨s, rfl⟩ : ∃ s, e = 100 + s := ⟨e - 100, by omega⟩
      rw [show 100 + s - 100 = s by omega] at he
      have hs' : (s : Int) < m 0 := by omega
      obtain ⟨j, x, y⟩ := e5 (100 + (s : Int)) (Or.inr ⟨s, rfl, by omega, hs', he.2.2.1⟩)
      exact ⟨j, x, by omega, decide_eq_true (by rw [y, os s hs']; exact he.2.2.2)⟩
/-- the next one below a stamp -/
theorem ea_step {f : Nat → Int} (h : entE m c f N K Z a) {st : Int} {P : Nat} (hP : P ≤ Z) (hst : ∀ j, j < Z → enB c f a j = true → (stampI m (f j) < st ↔ j < P)) (h1 : 1 ≤ cnt (enB c f a) P) : ∃ p, p < P ∧ enB c f a p = true ∧ cnt (enB c f a) p = cnt (enB c f a) P - 1 ∧ eaV m N K a st = f p := by
  obtain ⟨h2, h3, h4, h5, -⟩ := h
  obtain ⟨p, p1, p2, p3⟩ := cnt_at (P := enB c f a) (k := cnt (enB c f a) P - 1) (by omega) P (by omega)
  refine ⟨p, p1, p2, p3, ?_⟩
  have key := ea_max (m := m) (N := N) (C := K) (a := a) (st := st) 160 0 (-5) (by decide) (Or.inl (by decide))
  unfold eaV
  generalize eaL m N K a st 160 0 (-5) = r at key ⊢
  obtain ⟨a1, a2, a3, a4⟩ := key
  have fp := h2 p (by omega)
  have ep := h4 p (by omega) p2
  have sp := (hst p (by omega) p2).mpr p1
  have cp : ((((f p).toNat : Nat)) : Int) = f p := by omega
  obtain ⟨b1, b2⟩ := a4 (f p).toNat (Nat.zero_le _) (by omega) ep (by rw [stV_I, cp]; exact sp)
  obtain ⟨c1, c2⟩ := a2 b1
  obtain ⟨j, j1, j2, j3⟩ := h5 _ c1
  rw [stV_I, ← j2] at c2
  rw [stV_I, stV_I, cp, ← j2] at b2
  have jP := (hst j j1 j3).mp c2
  have jp : j = p := by
    rcases Nat.lt_trichotomy j p with x | x | x
    · have := h3 j p x (by omega); omega
    · exact x
    · exfalso
      have y := cnt_mono (p := enB c f a) (show j + 1 ≤ P by omega)
      have y2 := cnt_mono (p := enB c f a) (show p + 1 ≤ j by omega)
      rw [cnt_S, if_pos j3] at y
      rw [cnt_S, if_pos p2] at y2
      omega
  rw [jp] at j2
  omega
theorem en_step {f : Nat → Int} (h : entE m c f N K Z a) : ∀ (n p : Nat), p < Z → enB c f a p = true → (n : Int) ≤ cnt (enB c f a) p → ∃ p2, p2 < Z ∧ enB c f a p2 = true ∧ cnt (enB c f a) p2 = cnt (enB c f a) p - n ∧ enL m N K a n (f p) = f p2
  | 0, p, hp, hb, _ => ⟨p, hp, hb, by omega, rfl⟩
  | n + 1, p, hp, hb, hn => by
    obtain ⟨q, q1, q2, q3, q4⟩ := ea_step h (st := stampI m (f p)) (P := p) (by omega) (fun j hj _ => by
      constructor
      · intro x
        rcases Nat.lt_trichotomy j p with y | y | y
        · exact y
        · rw [y] at x; omega
        · have := h.2.1 p j y hj; omega
      · intro x; exact h.2.1 j p x hp) (by omega)
    obtain ⟨p2, w1, w2, w3, w4⟩ := en_step h n q (by omega) q2 (by omega)
    exact ⟨p2, w1, w2, by omega, by show enL m N K a n (eaV m N K a (stampI m (f p))) = f p2; rw [q4]; exact w4⟩
theorem entry_both (h : CR m pool S c C nm g) (hok : mOk m) (hs : ScI m) (hnc : NC m) (hst : ∀ t : Nat, (t : Int) < m 1 → 0 ≤ m (258 + 14 * t) ∧ m (258 + 14 * t) ≤ 2) (hZ : c 10 = (Z : Int)) (hN : m 1 = (N : Int)) (hK : m 0 = (K : Int)) (ha : 0 ≤ a ∧ a ≤ m 0 - 1) {k : Int} : eyL c (C 2) a k Z 0 = entryV m N K a k := by
  have he := ent_of (a := a) h hok hs hnc hst hZ hN hK
  have tot := en_eq h hok hs hnc hst ha.1 hZ hN hK
  unfold entryV
  by_cases w : 0 ≤ k ∧ k ≤ entsN m a N K - 1
  · rw [if_pos ⟨ha, w⟩]
    obtain ⟨q, q1, q2, q3, q4⟩ := ea_step he (st := m 6 + 1) (P := Z) (Nat.le_refl _) (fun j hj _ => ⟨fun _ => hj, fun _ => by have := he.2.2.2.2 j hj; omega⟩) (by omega)
    obtain ⟨p2, w1, w2, w3, w4⟩ := en_step he (entsN m a N K - 1 - k).toNat q q1 q2 (by omega)
    rw [q4, w4]
    exact ey_at w2 (by omega) Z 0 (Nat.zero_le _) (by omega)
  · rw [if_neg (fun z => w z.2)]
    refine ey_no Z 0 ?_
    rw [Nat.zero_add, tot]
    omega
end EV
end mg_b9
section mg_c0
/-! ===== letters and the order of names, on both sides ===== -/
theorem letA_n {g : Nat → Nat} (hg : ∀ j, g j < 32) {i : Nat} (hi : i < 7) : letA (lN (cdN g 7)) (i : Int) = (g i : Int) := by
  have b := cdN_b hg 7
  have b2 : cdN g 7 < 2 ^ 62 := Nat.lt_of_lt_of_le b (by decide)
  have k1 : 5 * (6 - i) < 64 := by omega
  have eD : (J (5 * (6 - (i : Int)))).toInt64 &&& 63 = lN (5 * (6 - i)) := by
    rw [J_nI _ (by omega), show (5 * (6 - (i : Int))).toNat = 5 * (6 - i) by omega]
    exact wb_c _ k1
  have hD : ((lN (5 * (6 - i))).toBitVec.smod 64).toNat = 5 * (6 - i) := by
    rw [wb_tb, wb_sm _ k1, BitVec.toNat_ofNat]
    exact Nat.mod_eq_of_lt (Nat.lt_of_lt_of_le k1 (by decide))
  unfold letA
  rw [eD, pf_shr hD b2, and31]
  have e : (lN (cdN g 7 / 2 ^ (5 * (6 - i)))).toInt32.toBitVec.toNat % 32 = (cdN g 7 / 2 ^ (5 * (6 - i))) % 32 := by
    have e1 : (lN (cdN g 7 / 2 ^ (5 * (6 - i)))).toInt32.toBitVec = (BitVec.ofNat 64 (cdN g 7 / 2 ^ (5 * (6 - i)))).setWidth 32 := by
      rw [← wb_tb, ← BitVec.signExtend_eq_setWidth_of_le _ (by decide)]; rfl
    rw [e1, BitVec.toNat_setWidth, BitVec.toNat_ofNat]
    omega
  rw [e, Nat.pow_mul, show 2 ^ 5 = 32 from rfl, cdN_d hg 7 i (6 - i) (by omega)]
theorem letV_n {sr : Nat → Int} {p e : Nat} (h : ∀ j, p ≤ j → j < e → isLt (sr j)) {i : Nat} (hi : i < 7) : letV (nmY sr p e) (i : Int) = if p + i < e then sr (p + i) else 0 := by
  unfold letV nmY nmN
  rw [if_pos ⟨by omega, by omega⟩, letA_n (nmG_b h) hi]
  unfold nmG
  by_cases z : p + i < e
  · have l := h (p + i) (by omega) z
    rw [if_pos z, if_pos z]
    unfold isLt at l
    rw [if_neg (by omega)]
    omega
  · rw [if_neg z, if_neg z]; rfl
theorem letV_o {y : Int64} {i : Int} (h : ¬ (0 ≤ i ∧ i < 7)) : letV y i = 0 := by unfold letV; rw [if_neg h]
theorem lnL_n {sr : Nat → Int} {p e : Nat} (h : ∀ j, p ≤ j → j < e → isLt (sr j)) (h7 : p ≤ e ∧ e ≤ p + 7) : ∀ n t : Nat, t + n = 7 → p + t ≤ e → lnL (nmY sr p e) n t = ((e - p : Nat) : Int)
  | 0, t, a, b => by show (t : Int) = _; omega
  | n + 1, t, a, b => by
    unfold lnL
    rw [letV_n h (by omega)]
    by_cases z : p + t < e
    · have l := h (p + t) (by omega) z
      unfold isLt at l
      rw [if_pos z, if_neg (by omega)]
      exact lnL_n h h7 n (t + 1) (by omega) (by omega)
    · rw [if_neg z, if_pos rfl]; omega
/-! the order -/
def lexP (x y : Nat → Int) (a b : Int) (M : Nat) : Prop := (∃ j, j < M ∧ (∀ i, i < j → x i = y i) ∧ x j < y j) ∨ ((∀ i, i < M → x i = y i) ∧ a < b)
theorem ag_lt {m rc : Nat → Int} {t fr : Nat} {a b : Int} : ∀ n k, (∀ i, i < k → m (265 + 14 * t + i) = rc (fr + i)) → (agL m rc t fr a b n k < 0 ↔ lexP (fun i => m (265 + 14 * t + i)) (fun i => rc (fr + i)) a b (k + n))
  | 0, k, h => by
    unfold agL lexP
    constructor
    · intro g; exact Or.inr ⟨fun i hi => h i (by omega), by omega⟩
    · rintro (⟨j, j1, j2, j3⟩ | ⟨-, g⟩)
      · have := h j (by omega)
        have j3' : m (265 + 14 * t + j) < rc (fr + j) := j3
        omega
      · omega
  | n + 1, k, h => by
    unfold agL
    by_cases z : m (265 + 14 * t + k) - rc (fr + k) = 0
    · rw [if_pos z, ag_lt n (k + 1) (fun i hi => by
        by_cases w : i = k
        · subst w; omega
        · exact h i (by omega)), show k + 1 + n = k + (n + 1) by omega]
    · rw [if_neg z]
      unfold lexP
      constructor
      · intro g; exact Or.inl ⟨k, by omega, fun i hi => h i hi, by show m (265 + 14 * t + k) < rc (fr + k); omega⟩
      · rintro (⟨j, j1, j2, j3⟩ | ⟨g, -⟩)
        · have j3' : m (265 + 14 * t + j) < rc (fr + j) := j3
          rcases Nat.lt_trichotomy j k with w | w | w
          · have := h j w; omega
          · subst w; omega
          · have q : m (265 + 14 * t + k) = rc (fr + k) := j2 k w
            omega
        · have q : m (265 + 14 * t + k) = rc (fr + k) := g k (by omega)
          omega
/-- words that end, and their codes -/
theorem lex_cd {x y : Nat → Int} {a b : Nat} (ha : a ≤ 7) (hb : b ≤ 7) (hx : ∀ j, j < a → isLt (x j)) (hy : ∀ j, j < b → isLt (y j)) {gx gy : Nat → Nat} (ex : ∀ j, j < 7 → gx j = if j < a then (x j - 96).toNat else 0) (ey : ∀ j, j < 7 → gy j = if j < b then (y j - 96).toNat else 0) : lexP x y a b (agN a b) ↔ ∃ k, k < 7 ∧ (∀ j, j < k → gx j = gy j) ∧ gx k < gy k := by
  have hM : agN a b = if a ≤ b then a else b := by
    unfold agN
    by_cases z : a ≤ b
    · rw [if_pos (by omega), if_pos z]; omega
    · rw [if_neg (by omega), if_neg z]; omega
  have same : ∀ j, j < a → j < b → (gx j = gy j ↔ x j = y j) := fun j h1 h2 => by
    have lx := hx j h1
    have ly := hy j h2
    unfold isLt at lx ly
    rw [ex j (by omega), ey j (by omega), if_pos h1, if_pos h2]; omega
  rw [hM]
  unfold lexP
  constructor
  · rintro (⟨j, j1, j2, j3⟩ | ⟨g1, g2⟩)
    · have ja : j < a ∧ j < b := by split at j1 <;> omega
      have lx := hx j ja.1
      have ly := hy j ja.2
      unfold isLt at lx ly
      refine ⟨j, by omega, fun i hi => (same i (by omega) (by omega)).mpr (j2 i hi), ?_⟩
      rw [ex j (by omega), ey j (by omega), if_pos ja.1, if_pos ja.2]; omega
    · have ab : a < b := by omega
      rw [if_pos (by omega)] at g1
      have ly := hy a ab
      unfold isLt at ly
      refine ⟨a, by omega, fun i hi => (same i hi (by omega)).mpr (g1 i hi), ?_⟩
      rw [ex a (by omega), ey a (by omega), if_neg (by omega), if_pos ab]; omega
  · rintro ⟨k, k1, k2, k3⟩
    have kb : k < b := by
      by_cases z : k < b
      · exact z
      · rw [ey k k1, if_neg z] at k3; omega
    by_cases ka : k < a
    · have lx := hx k ka
      have ly := hy k kb
      unfold isLt at lx ly
      rw [ex k k1, ey k k1, if_pos ka, if_pos kb] at k3
      exact Or.inl ⟨k, by split <;> omega, fun i hi => (same i (by omega) (by omega)).mp (k2 i hi), by omega⟩
    · have ea : k = a := by
        by_cases z : k = a
        · exact z
        · exfalso
          have q := k2 a (by omega)
          have ly := hy a (by omega)
          unfold isLt at ly
          rw [ex a (by omega), ey a (by omega), if_neg (by omega), if_pos (by omega)] at q
          omega
      subst ea
      rw [if_pos (by omega)]
      exact Or.inr ⟨fun i hi => (same i hi (by omega)).mp (k2 i hi), by omega⟩
theorem nmR_lt {m : Nat → Int} {t o : Nat} (ht : nmOk m t) (ho : nmOk m o) : (nmR m t).toInt < (nmR m o).toInt ↔ agT m t o < 0 := by
  obtain ⟨ht1, ht2⟩ := ht
  obtain ⟨ho1, ho2⟩ := ho
  obtain ⟨a, ea⟩ : ∃ a : Nat, m (261 + 14 * t) = a := ⟨(m (261 + 14 * t)).toNat, by omega⟩
  obtain ⟨b, eb⟩ : ∃ b : Nat, m (261 + 14 * o) = b := ⟨(m (261 + 14 * o)).toNat, by omega⟩
  have lt : ∀ j, 265 + 14 * t ≤ j → j < 265 + 14 * t + a → isLt (m j) := fun j h1 h2 => by
    have := ht2 (j - (265 + 14 * t)) (by omega)
    rw [show 265 + 14 * t + (j - (265 + 14 * t)) = j by omega] at this; exact this
  have lo : ∀ j, 265 + 14 * o ≤ j → j < 265 + 14 * o + b → isLt (m j) := fun j h1 h2 => by
    have := ho2 (j - (265 + 14 * o)) (by omega)
    rw [show 265 + 14 * o + (j - (265 + 14 * o)) = j by omega] at this; exact this
  have bt := nmN_b lt
  have bo := nmN_b lo
  unfold nmR nmY
  rw [ea, eb, show ((a : Int)).toNat = a by omega, show ((b : Int)).toNat = b by omega, pf_lI (Nat.lt_of_lt_of_le bt (by decide)), pf_lI (Nat.lt_of_lt_of_le bo (by decide))]
  unfold agT agV
  rw [ea, eb, ag_lt _ 0 (fun i hi => absurd hi (Nat.not_lt_zero _)), Nat.zero_add, lex_cd (x := fun i => m (265 + 14 * t + i)) (y := fun i => m (265 + 14 * o + i)) (by omega) (by omega) (fun j hj => lt _ (by omega) (by omega)) (fun j hj => lo _ (by omega) (by omega)) (gx := nmG m (265 + 14 * t) (265 + 14 * t + a)) (gy := nmG m (265 + 14 * o) (265 + 14 * o + b)) (fun j hj => by
    unfold nmG
    by_cases z : j < a
    · rw [if_pos (by omega), if_pos z]
    · rw [if_neg (by omega), if_neg z]) (fun j hj => by
    unfold nmG
    by_cases z : j < b
    · rw [if_pos (by omega), if_pos z]
    · rw [if_neg (by omega), if_neg z]), ← cdN_l (nmG_b lt) (nmG_b lo) 7]
  unfold nmN
  omega
end mg_c0
section mg_c1
/-! ===== things by their names, on both sides ===== -/
theorem less_l {y : Int64} {z : Int} {f : Nat → Int} : ∀ n t, lessL y z f n t = true ↔ ∃ j : Nat, t ≤ j ∧ j < t + n ∧ (∀ i : Nat, t ≤ i → i < j → letV y (i : Int) = atF 120 z f (i : Int)) ∧ letV y (j : Int) < atF 120 z f (j : Int)
  | 0, t => ⟨fun g => absurd g Bool.false_ne_true, fun ⟨j, a, b, _⟩ => absurd b (by omega)⟩
  | n + 1, t => by
    unfold lessL
    by_cases z : letV y t = atF 120 z f t
    · rw [if_pos z, less_l n (t + 1)]
      constructor
      · rintro ⟨j, a, b, c, d⟩
        refine ⟨j, by omega, by omega, fun i h1 h2 => ?_, d⟩
        by_cases w : i = t
        · subst w; exact z
        · exact c i (by omega) h2
      · rintro ⟨j, a, b, c, d⟩
        have jt : ¬ j = t := fun w => by subst w; omega
        exact ⟨j, by omega, by omega, fun i h1 h2 => c i (by omega) h2, d⟩
    · rw [if_neg z, decide_eq_true_iff]
      constructor
      · intro g; exact ⟨t, Nat.le_refl _, by omega, fun i h1 h2 => by omega, g⟩
      · rintro ⟨j, a, b, c, d⟩
        by_cases w : j = t
        · subst w; exact d
        · exact absurd (c t (Nat.le_refl _) (by omega)) z
theorem less_eq {m f : Nat → Int} {t b : Nat} (ht : nmOk m t) (hb : b ≤ 120) (hf : ∀ j, j < b → 1 ≤ f j) : lessL (nmR m t) (b : Int) f 8 0 = true ↔ agV m f t 0 (b : Int) < 0 := by
  obtain ⟨ht1, ht2⟩ := ht
  obtain ⟨a, ea⟩ : ∃ a : Nat, m (261 + 14 * t) = a := ⟨(m (261 + 14 * t)).toNat, by omega⟩
  have lt : ∀ j, 265 + 14 * t ≤ j → j < 265 + 14 * t + a → isLt (m j) := fun j h1 h2 => by
    have := ht2 (j - (265 + 14 * t)) (by omega)
    rw [show 265 + 14 * t + (j - (265 + 14 * t)) = j by omega] at this; exact this
  have hM : agN a b = if a ≤ b then a else b := by
    unfold agN
    by_cases z : a ≤ b
    · rw [if_pos (by omega), if_pos z]; omega
    · rw [if_neg (by omega), if_neg z]; omega
  have X : ∀ i : Nat, letV (nmR m t) (i : Int) = if i < a then m (265 + 14 * t + i) else 0 := fun i => by
    unfold nmR
    rw [ea, show ((a : Int)).toNat = a by omega]
    by_cases z : i < 7
    · rw [letV_n lt z]
      by_cases w : i < a
      · rw [if_pos (by omega), if_pos w]
      · rw [if_neg (by omega), if_neg w]
    · rw [letV_o (by omega), if_neg (by omega)]
  have T : ∀ i : Nat, atF 120 (b : Int) f (i : Int) = if i < b then f i else 0 := fun i => by
    unfold atF
    by_cases w : i < b
    · rw [if_pos w, if_pos ⟨by omega, by omega, by omega⟩]; rfl
    · rw [if_neg w, if_neg (fun z => w (by have := z.2.1; omega))]
  rw [less_l]
  unfold agV
  rw [ea, ag_lt _ 0 (fun i hi => absurd hi (Nat.not_lt_zero _)), Nat.zero_add, hM]
  unfold lexP
  constructor
  · rintro ⟨j, -, j1, j2, j3⟩
    rw [X j, T j] at j3
    have pos : ∀ i, i < a → 97 ≤ m (265 + 14 * t + i) := fun i hi => (lt _ (by omega) (by omega)).1
    have jb : j < b := by
      by_cases z : j < b
      · exact z
      · rw [if_neg z] at j3
        by_cases w : j < a
        · rw [if_pos w] at j3; have := pos j w; omega
        · rw [if_neg w] at j3; omega
    have pre : ∀ i, i < j → (if i < a then m (265 + 14 * t + i) else 0) = f i := fun i hi => by
      have := j2 i (Nat.zero_le _) hi
      rw [X i, T i, if_pos (show i < b by omega)] at this
      exact this
    by_cases ja : j < a
    · refine Or.inl ⟨j, by split <;> omega, fun i hi => ?_, ?_⟩
      · have := pre i hi
        rw [if_pos (by omega)] at this
        show m (265 + 14 * t + i) = f (0 + i)
        rw [Nat.zero_add]; exact this
      · rw [if_pos ja, if_pos jb] at j3
        show m (265 + 14 * t + j) < f (0 + j)
        rw [Nat.zero_add]; exact j3
    · have ejA : j = a := by
        by_cases z : j = a
        · exact z
        · exfalso
          have q := pre a (by omega)
          rw [if_neg (by omega)] at q
          have := hf a (by omega)
          omega
      subst ejA
      rw [if_pos (by omega)]
      refine Or.inr ⟨fun i hi => ?_, by omega⟩
      have := pre i (by omega)
      rw [if_pos (show i < j by omega)] at this
      show m (265 + 14 * t + i) = f (0 + i)
      rw [Nat.zero_add]; exact this
  · rintro (⟨j, j1, j2, j3⟩ | ⟨g1, g2⟩)
    · have ja : j < a ∧ j < b := by split at j1 <;> omega
      have j3' : m (265 + 14 * t + j) < f (0 + j) := j3
      rw [Nat.zero_add] at j3'
      refine ⟨j, Nat.zero_le _, by omega, fun i _ hi => ?_, ?_⟩
      · have q : m (265 + 14 * t + i) = f (0 + i) := j2 i hi
        rw [Nat.zero_add] at q
        rw [X i, T i, if_pos (by omega), if_pos (by omega)]; exact q
      · rw [X j, T j, if_pos ja.1, if_pos ja.2]; exact j3'
    · have ab : a < b := by omega
      rw [if_pos (by omega)] at g1
      refine ⟨a, Nat.zero_le _, by omega, fun i _ hi => ?_, ?_⟩
      · have q : m (265 + 14 * t + i) = f (0 + i) := g1 i (by omega)
        rw [Nat.zero_add] at q
        rw [X i, T i, if_pos (show i < a by omega), if_pos (by omega)]; exact q
      · rw [X a, T a, if_neg (by omega), if_pos ab]
        have := hf a ab
        omega
section BN
variable {m c : Nat → Int} {nm : Nat → Int64}
theorem hd_eq (hT : crT m c nm) (hst : ∀ t : Nat, (t : Int) < m 1 → 0 ≤ m (258 + 14 * t) ∧ m (258 + 14 * t) ≤ 2) {t : Nat} (ht : (t : Int) < m 1) : c (32 + 3 * t) = 0 ↔ heldB m t = true := by
  unfold heldB
  rw [(hT t ht).1, swT_0 (hst t ht), decide_eq_true_iff]
theorem nm_lt (hT : crT m c nm) {t u : Nat} (ht : (t : Int) < m 1) (hu : (u : Int) < m 1) : (nm t).toInt < (nm u).toInt ↔ agT m t u < 0 := by
  rw [(hT t ht).2.2.2.1, (hT u hu).2.2.2.1]
  exact nmR_lt (hT t ht).2.2.2.2 (hT u hu).2.2.2.2
theorem hp_eq (hT : crT m c nm) (hst : ∀ t : Nat, (t : Int) < m 1 → 0 ≤ m (258 + 14 * t) ∧ m (258 + 14 * t) ≤ 2) {N : Nat} (hN : m 1 = (N : Int)) {i : Int} : ∀ n t, t + n = N → hpL c nm N i n t = bnL m N i n t
  | 0, t, _ => rfl
  | n + 1, t, h => by
    unfold hpL bnL
    have e1 : cnt (haB c nm (nm t)) N = cnt (nmB m t) N := cnt_congr _ (fun q hq => by
      have a := hd_eq hT hst (t := q) (by omega)
      have b := nm_lt hT (t := q) (u := t) (by omega) (by omega)
      unfold haB nmB
      by_cases z : heldB m q = true
      · rw [z, Bool.true_and]; exact decide_eq_decide.mpr ⟨fun g => b.mp g.2, fun g => ⟨a.mpr z, b.mpr g⟩⟩
      · rw [Bool.eq_false_iff.mpr z, Bool.false_and]; exact decide_eq_false (fun g => z (a.mp g.1)))
    have a := hd_eq hT hst (t := t) (by omega)
    rw [e1, hp_eq hT hst hN n (t + 1) (by omega)]
    by_cases z : heldB m t = true ∧ cnt (nmB m t) N = i
    · rw [if_pos z, if_pos ⟨a.mpr z.1, z.2⟩]
    · rw [if_neg z, if_neg (fun g => z ⟨a.mp g.1, g.2⟩)]
theorem hf_eq (hT : crT m c nm) (hst : ∀ t : Nat, (t : Int) < m 1 → 0 ≤ m (258 + 14 * t) ∧ m (258 + 14 * t) ≤ 2) {N : Nat} (hN : m 1 = (N : Int)) {f : Nat → Int} {b : Nat} (hb : b ≤ 120) (hf : ∀ j, j < b → 1 ≤ f j) : ∀ (n t : Nat) (x : Int), t + n = N → (x < 0 ∨ (0 ≤ x ∧ x < t)) → hfL c nm (fun y => lessL y (b : Int) f 8 0) n t x = frL m f (b : Int) n t x
  | 0, t, x, _, _ => rfl
  | n + 1, t, x, h, hx => by
    unfold hfL frL
    have a := hd_eq hT hst (t := t) (by omega)
    obtain ⟨-, -, -, q1, q2⟩ := hT t (by omega)
    have l := less_eq (m := m) (t := t) q2 hb hf
    have e : (c (32 + 3 * t) = 0 ∧ (fun y => lessL y (b : Int) f 8 0) (nm t) = false ∧ (x < 0 ∨ (nm t).toInt < (nm x.toNat).toInt)) ↔ (heldB m t = true ∧ 0 ≤ agV m f t 0 (b : Int) ∧ (x < 0 ∨ agT m t x.toNat < 0)) := by
      rw [a]
      refine and_congr Iff.rfl (and_congr ?_ ?_)
      · show lessL (nm t) (b : Int) f 8 0 = false ↔ _
        rw [q1, Bool.eq_false_iff]
        constructor
        · intro g
          by_cases z : agV m f t 0 (b : Int) < 0
          · exact absurd (l.mpr z) g
          · omega
        · intro g z
          have := l.mp z
          omega
      · by_cases z : x < 0
        · exact ⟨fun _ => Or.inl z, fun _ => Or.inl z⟩
        · have y := nm_lt hT (t := t) (u := x.toNat) (by omega) (by omega)
          constructor
          · rintro (g | g)
            · exact Or.inl g
            · exact Or.inr (y.mp g)
          · rintro (g | g)
            · exact Or.inl g
            · exact Or.inr (y.mpr g)
    by_cases z : heldB m t = true ∧ 0 ≤ agV m f t 0 (b : Int) ∧ (x < 0 ∨ agT m t x.toNat < 0)
    · rw [if_pos z, if_pos (e.mpr z)]
      exact hf_eq hT hst hN hb hf n (t + 1) (t : Int) (by omega) (Or.inr ⟨by omega, by omega⟩)
    · rw [if_neg z, if_neg (fun g => z (e.mp g))]
      exact hf_eq hT hst hN hb hf n (t + 1) x (by omega) (by omega)
/-- a name's letters -/
theorem name_eq (hT : crT m c nm) {t : Nat} (ht : (t : Int) < m 1) : lnL (nm t) 7 0 = m (261 + 14 * t) ∧ ∀ i : Int, letV (nm t) i = if 0 ≤ i ∧ i ≤ m (261 + 14 * t) - 1 then m (265 + 14 * t + i).toNat else 0 := by
  obtain ⟨-, -, -, q1, q2, q3⟩ := hT t ht
  obtain ⟨a, ea⟩ : ∃ a : Nat, m (261 + 14 * t) = a := ⟨(m (261 + 14 * t)).toNat, by omega⟩
  have lt : ∀ j, 265 + 14 * t ≤ j → j < 265 + 14 * t + a → isLt (m j) := fun j h1 h2 => by
    have := q3 (j - (265 + 14 * t)) (by omega)
    rw [show 265 + 14 * t + (j - (265 + 14 * t)) = j by omega] at this; exact this
  rw [q1]
  unfold nmR
  rw [ea, show ((a : Int)).toNat = a by omega]
  refine ⟨?_, fun i => ?_⟩
  · rw [lnL_n lt ⟨by omega, by omega⟩ 7 0 (by omega) (by omega)]; omega
  · by_cases z : 0 ≤ i ∧ i < 7
    · obtain ⟨k, rfl⟩ : ∃ k : Nat, i = k := ⟨i.toNat, by omega⟩
      rw [letV_n lt (by omega)]
      by_cases w : k < a
      · rw [if_pos (by omega), if_pos ⟨by omega, by omega⟩]; congr 1
      · rw [if_neg (by omega), if_neg (by omega)]
    · rw [letV_o z, if_neg (by omega)]
end BN
end mg_c1
section mg_c2
/-! ===== the plan of a scope, on both sides ===== -/
section PN
variable {m c f : Nat → Int} {N C K Z : Nat}
theorem chain_one (hp : parI m C) {s a i j x y : Nat} (hs : s < C) (hij : i ≤ j) (hx : x < C) (hy : y < C) (px : m (19 + 4 * x) = s) (py : m (19 + 4 * y) = s) (hi : itP m i a = some x) (hj : itP m j a = some y) : x = y := by
  have no : ∀ i c : Nat, c < C → m (19 + 4 * c) = s → itP m i s = some c → False := by
    intro i c hc hcs hi
    have := (itP_le hp i s c hs hi).1
    have := hp c hc
    omega
  have ha := itP_add i (j - i) _ x hi
  rw [show i + (j - i) = j by omega, hj] at ha
  cases hk : j - i with
  | zero =>
    rw [hk] at ha
    have : some y = some x := ha
    cases this; rfl
  | succ n =>
    rw [hk] at ha
    unfold itP at ha
    rw [if_pos (by omega), px] at ha
    exact (no n y hy py (by rw [ha]; rw [show ((s : Int)).toNat = s by omega])).elim
/-- scopes in an entry, scopes in entries with an elder stamp -/
noncomputable def dsN (m : Nat → Int) (C a : Nat) : Int := cnt (fun x => bP (∃ i, itP m i x = some a)) C
def vis (m : Nat → Int) (N C s : Nat) (st : Int) (x : Nat) : Prop := ∃ e : Nat, 100 < e ∧ entryP m N C s e ∧ stampV m e < st ∧ ∃ i, itP m i x = some (e - 100)
noncomputable def visN (m : Nat → Int) (N C s : Nat) (st : Int) : Int := cnt (fun x => bP (vis m N C s st x)) C
theorem vis_mono {s : Nat} {st st' : Int} (h : st ≤ st') : visN m N C s st ≤ visN m N C s st' := by
  refine cnt_le C (fun t _ z => ?_)
  rw [bP_t] at z ⊢
  obtain ⟨e, z1, z2, z3, z4⟩ := z
  exact ⟨e, z1, z2, by omega, z4⟩
theorem vis_split (hp : parI m C) {s e : Nat} {st : Int} (hs : s < C) (he : 100 < e) (h : entryP m N C s e) (hst : stampV m e < st) : visN m N C s (stampV m e) + dsN m C (e - 100) ≤ visN m N C s st := by
  have pe : ∀ {e : Nat}, 100 < e → entryP m N C s e → e - 100 < C ∧ m (19 + 4 * (e - 100)) = s := fun {e} h1 h2 => by
    rcases entP_c h2 with ⟨a, -⟩ | ⟨a1, a2, a3⟩
    · omega
    · exact ⟨by omega, a3⟩
  refine cnt_add C (fun t ht z => ?_) (fun t ht z => ?_) (fun t ht z w => ?_)
  · rw [bP_t] at z ⊢
    obtain ⟨e', z1, z2, z3, z4⟩ := z
    exact ⟨e', z1, z2, by omega, z4⟩
  · rw [bP_t] at z ⊢
    exact ⟨e, he, h, hst, z⟩
  · rw [bP_t] at z w
    obtain ⟨e', z1, z2, z3, i, zi⟩ := z
    obtain ⟨j, wj⟩ := w
    obtain ⟨a1, a2⟩ := pe z1 z2
    obtain ⟨b1, b2⟩ := pe he h
    have : e' - 100 = e - 100 := by
      by_cases q : i ≤ j
      · exact chain_one hp hs q a1 b1 a2 b2 zi wj
      · exact (chain_one hp hs (by omega) b1 a1 b2 a2 wj zi).symm
    have : e' = e := by omega
    subst this
    omega
theorem vis_in (hp : parI m C) {a : Nat} {st : Int} (ha : a < C) : visN m N C a st + 1 ≤ dsN m C a := by
  have h1 : cnt (fun q => decide (q = a)) C = 1 := by
    have := cnt_upd (p := fun _ => false) (p' := fun q => decide (q = a)) (t := a) (M := C) rfl (by simp) (fun q _ hq => by simp [hq]) C (Nat.le_refl _)
    rw [if_pos ha, cnt_zero (p := fun _ => false) C (fun _ _ => rfl)] at this
    omega
  have := cnt_add (p1 := fun x => bP (vis m N C a st x)) (p2 := fun q => decide (q = a)) (p := fun x => bP (∃ i, itP m i x = some a)) C (fun t ht z => by
      rw [bP_t] at z ⊢
      obtain ⟨e, z1, z2, z3, i, zi⟩ := z
      rcases entP_c z2 with ⟨b, -⟩ | ⟨b1, b2, b3⟩
      · omega
      · refine ⟨i + 1, ?_⟩
        rw [itP_add i 1 _ _ zi]
        unfold itP
        rw [if_pos (by omega), b3]
        rfl) (fun t ht z => by
      rw [decide_eq_true_eq] at z
      subst z
      rw [bP_t]; exact ⟨0, rfl⟩) (fun t ht z w => by
      rw [decide_eq_true_eq] at w
      subst w
      rw [bP_t] at z
      obtain ⟨e, z1, z2, z3, i, zi⟩ := z
      rcases entP_c z2 with ⟨b, -⟩ | ⟨b1, b2, b3⟩
      · omega
      · have q := (itP_le hp i _ _ ht zi).1
        have q2 := hp (e - 100) (by omega)
        omega)
  unfold visN dsN
  omega
theorem pe_at {e : Int} {q : Nat} (hq : f q = e) (hn : ∀ j, j < q → ¬ f j = e) : ∀ n t, t ≤ q → q < t + n → peL f e n t = q
  | 0, t, a, b => by omega
  | n + 1, t, a, b => by
    unfold peL
    by_cases z : t = q
    · subst z; rw [if_pos hq]
    · rw [if_neg (hn t (by omega))]
      exact pe_at hq hn n (t + 1) (by omega) (by omega)
/-- the next entry below a place -/
theorem ea_next {a : Int} (h : entE m c f N K Z a) {st : Int} {P : Nat} (hP : P ≤ Z) (hst : ∀ j, j < Z → enB c f a j = true → (stampI m (f j) < st ↔ j < P)) : (eaV m N K a st < 0 ∧ ∀ j, j < P → ¬ enB c f a j = true) ∨ ∃ q, q < P ∧ enB c f a q = true ∧ eaV m N K a st = f q ∧ ∀ j, q < j → j < P → ¬ enB c f a j = true := by
  by_cases z : 1 ≤ cnt (enB c f a) P
  · obtain ⟨q, q1, q2, q3, q4⟩ := ea_step h hP hst z
    refine Or.inr ⟨q, q1, q2, q4, fun j j1 j2 w => ?_⟩
    have y := cnt_mono (p := enB c f a) (show j + 1 ≤ P by omega)
    have y2 := cnt_mono (p := enB c f a) (show q + 1 ≤ j by omega)
    rw [cnt_S, if_pos w] at y
    rw [cnt_S, if_pos q2] at y2
    omega
  · have no : ∀ j, j < P → ¬ enB c f a j = true := fun j hj w => z (cnt_one w P hj)
    refine Or.inl ⟨?_, no⟩
    have key := ea_max (m := m) (N := N) (C := K) (a := a) (st := st) 160 0 (-5) (by decide) (Or.inl (by decide))
    unfold eaV
    generalize eaL m N K a st 160 0 (-5) = r at key ⊢
    obtain ⟨a1, a2, -, -⟩ := key
    by_cases w : 0 ≤ r
    · exfalso
      obtain ⟨c1, c2⟩ := a2 w
      obtain ⟨j, j1, j2, j3⟩ := h.2.2.2.1 _ c1
      rw [stV_I, ← j2] at c2
      exact no j ((hst j j1 j3).mp c2) j3
    · omega
/-- the class's rounds in one scope, from a place on -/
def PCS (c f : Nat → Int) (Z : Nat) (s0 : Int) (s P k k' : Nat) (p p' : Nat → Int) (R : Nat) : Prop :=
  k ≤ k' ∧ (∀ u, u < k → p' u = p u) ∧ ∀ (i : Int) (M : Nat), pcL c f Z s0 i (R + M) s ((P : Int) - 1) k = if (k : Int) ≤ i ∧ i < k' then p' i.toNat else pcL c f Z s0 i M s (-1) k'
theorem pc_scan {s0 i : Int} {s k : Nat} {P : Nat} : ∀ d M, d ≤ P → (∀ j, P - d ≤ j → j < P → ¬ enB c f s j = true) → pcL c f Z s0 i (d + M) s ((P : Int) - 1) k = pcL c f Z s0 i M s ((P : Int) - d - 1) k
  | 0, M, _, _ => by rw [Nat.zero_add, show (P : Int) - ((0 : Nat) : Int) - 1 = (P : Int) - 1 by omega]
  | d + 1, M, hd, h => by
    have ih := pc_scan (s0 := s0) (i := i) (s := s) (k := k) d (M + 1) (by omega) (fun j a b => h j (by omega) b)
    rw [show d + 1 + M = d + (M + 1) by omega, ih]
    have e : (P : Int) - d - 1 = ((P - (d + 1) : Nat) : Int) := by omega
    have n := h (P - (d + 1)) (by omega) (by omega)
    show (if (P : Int) - d - 1 < 0 then _ else if ¬ ownF c (f ((P : Int) - d - 1).toNat) = s then pcL c f Z s0 i M s ((P : Int) - d - 1 - 1) k else _) = _
    rw [if_neg (by omega), if_pos (by rw [e, show (((P - (d + 1) : Nat) : Int)).toNat = P - (d + 1) by omega]; exact fun g => n (decide_eq_true g))]
    congr 1; omega
theorem pc_loop (hE : ∀ a : Nat, entE m c f N K Z a) (hN : m 1 = (N : Int)) (hK : m 0 = (K : Int)) (hp : parI m K) (hsc : ∀ j, j < Z → 100 ≤ f j → 100 < f j) (hinj : ∀ j k, j < k → k < Z → ¬ f j = f k) {s0 : Nat} {n s : Nat} (hs : s < K) (h0 : s0 ≤ s)
    (hpl : ∀ (a : Nat) p k p' k', s < a → a < K → plR m n a p k p' k' → ∃ R : Nat, (R : Int) ≤ Z + (Z + 2) * visN m N K a (m 6 + 1) ∧ PCS c f Z s0 a Z k k' p p' R) :
    ∀ (j : Nat) (e : Int) (p : Nat → Int) (k : Nat) (p' : Nat → Int) (k' : Nat) (P : Nat) (st : Int), P ≤ Z → (∀ j, j < Z → enB c f s j = true → (stampI m (f j) < st ↔ j < P)) → e = eaI m s st → plLR (plR m n) m s j e p k p' k' → ∃ R : Nat, (R : Int) ≤ P + (Z + 2) * visN m N K s st ∧ PCS c f Z s0 s P k k' p p' R
  | j, e, p, k, p', k', P, st, hPZ, hst, he, hL => by
    have eN : (m 1).toNat = N := by omega
    have eK : (m 0).toNat = K := by omega
    unfold eaI at he
    rw [eN, eK] at he
    have v0 : 0 ≤ visN m N K s st := (cnt_r _ _).1
    have zv : 0 ≤ (Z + 2) * visN m N K s st := Int.mul_nonneg (by omega) v0
    rcases ea_next (hE s) hPZ hst with ⟨x, no⟩ | ⟨q, q1, q2, q3, no⟩
    · have hh : p' = p ∧ k' = k := by
        cases j with
        | zero => exact hL.2
        | succ j =>
          rcases hL with ⟨-, y⟩ | ⟨y, -⟩ | ⟨y, -⟩
          · exact y
          · omega
          · omega
      obtain ⟨rfl, rfl⟩ := hh
      refine ⟨P, by omega, Nat.le_refl _, fun _ _ => rfl, fun i M => ?_⟩
      rw [pc_scan P M (Nat.le_refl _) (fun j _ b => no j b), if_neg (by omega), show (P : Int) - P - 1 = -1 by omega]
    · rw [q3] at he
      have fq := (hE s).1 q (by omega)
      have ow : ownF c (f q) = s := of_decide_eq_true q2
      have scan : ∀ i M, pcL c f Z s0 i (P - 1 - q + M) s ((P : Int) - 1) k = pcL c f Z s0 i M s (q : Int) k := fun i M => by
        rw [pc_scan (P - 1 - q) M (by omega) (fun j a b => no j (by omega) b), show (P : Int) - ((P - 1 - q : Nat) : Int) - 1 = (q : Int) by omega]
      have hst2 : ∀ j, j < Z → enB c f s j = true → (stampI m (f j) < stampI m e ↔ j < q) := fun j hj _ => by
        rw [he]
        constructor
        · intro w
          rcases Nat.lt_trichotomy j q with y | y | y
          · exact y
          · subst y; omega
          · have := (hE s).2.1 q j y hj; omega
        · intro w; exact (hE s).2.1 j q w (by omega)
      have lt := (hst q (by omega) q2).mpr q1
      have ent := (hE s).2.2.1 q (by omega) q2
      have vm := vis_mono (m := m) (N := N) (C := K) (s := s) (st := stampI m e) (st' := st) (by rw [he]; omega)
      cases j with
      | zero => have := hL.1; omega
      | succ j =>
        rcases hL with ⟨y, -⟩ | ⟨y, -, hL⟩ | ⟨y, p1, k1, ha, hL⟩
        · omega
        · obtain ⟨R, r1, r2, r3, r4⟩ := pc_loop hE hN hK hp hsc hinj hs h0 hpl j _ _ _ _ _ q (stampI m e) (by omega) hst2 rfl hL
          have zm : (Z + 2) * visN m N K s (stampI m e) ≤ (Z + 2) * visN m N K s st := Int.mul_le_mul_of_nonneg_left vm (by omega)
          refine ⟨P - 1 - q + (1 + R), by omega, by omega, fun u hu => by rw [r3 u (by omega), updI_n (by omega)], fun i M => ?_⟩
          rw [show P - 1 - q + (1 + R) + M = P - 1 - q + (R + M + 1) by omega, scan]
          show (if (q : Int) < 0 then _ else if ¬ ownF c (f ((q : Int)).toNat) = s then _ else if 100 ≤ f ((q : Int)).toNat then _ else if (k : Int) = i then f ((q : Int)).toNat else pcL c f Z s0 i (R + M) s ((q : Int) - 1) ((k : Int) + 1)) = _
          rw [show ((q : Int)).toNat = q by omega, if_neg (by omega), if_neg (fun g => g ow), if_neg (by omega)]
          by_cases w : (k : Int) = i
          · rw [if_pos w, if_pos ⟨by omega, by omega⟩, show i.toNat = k by omega, r3 k (by omega), updI_s, he]
          · rw [if_neg w]
            have y2 := r4 i M
            rw [show ((k + 1 : Nat) : Int) = (k : Int) + 1 by omega] at y2
            rw [y2]
            by_cases w2 : (k : Int) + 1 ≤ i ∧ i < k'
            · rw [if_pos w2, if_pos ⟨by omega, w2.2⟩]
            · rw [if_neg w2, if_neg (by omega)]
        · have big := hsc q (by omega) (by omega)
          obtain ⟨a, ea⟩ : ∃ a : Nat, f q = 100 + (a : Int) := ⟨(f q - 100).toNat, by omega⟩
          have ent2 : entryP m N K s (100 + a) := by rw [ea, show (100 + (a : Int)).toNat = 100 + a by omega] at ent; exact ent
          have par : a < K ∧ m (19 + 4 * a) = s := by
            rcases entP_c ent2 with ⟨b, -⟩ | ⟨b1, b2, b3⟩
            · omega
            · rw [show 100 + a - 100 = a by omega] at b3; exact ⟨by omega, b3⟩
          have pa := hp a par.1
          rw [par.2] at pa
          rw [show e - 100 = (a : Int) by omega] at ha
          obtain ⟨Ra, ra1, ra2, ra3, ra4⟩ := hpl a _ _ _ _ (by omega) par.1 ha
          obtain ⟨R, r1, r2, r3, r4⟩ := pc_loop hE hN hK hp hsc hinj hs h0 hpl j _ _ _ _ _ q (stampI m e) (by omega) hst2 rfl hL
          have sp := vis_split (st := st) hp hs (show 100 < 100 + a by omega) ent2 (by rw [stV_I, show ((100 + a : Nat) : Int) = f q by omega]; exact lt)
          rw [stV_I, show ((100 + a : Nat) : Int) = e by omega, show 100 + a - 100 = a by omega] at sp
          have vi := vis_in (N := N) (st := m 6 + 1) hp par.1
          have zm : (Z + 2) * (visN m N K s (stampI m e) + (visN m N K a (m 6 + 1) + 1)) ≤ (Z + 2) * visN m N K s st := Int.mul_le_mul_of_nonneg_left (by omega) (by omega)
          rw [Int.mul_add, Int.mul_add] at zm
          refine ⟨P - 1 - q + (1 + (Ra + (1 + R))), by omega, by omega, fun u hu => by rw [r3 u (by omega), ra3 u hu], fun i M => ?_⟩
          rw [show P - 1 - q + (1 + (Ra + (1 + R))) + M = P - 1 - q + (Ra + (R + M + 1) + 1) by omega, scan]
          show (if (q : Int) < 0 then _ else if ¬ ownF c (f ((q : Int)).toNat) = s then _ else if 100 ≤ f ((q : Int)).toNat then pcL c f Z s0 i (Ra + (R + M + 1)) (f ((q : Int)).toNat - 100) ((Z : Int) - 1) k else _) = _
          rw [show ((q : Int)).toNat = q by omega, if_neg (by omega), if_neg (fun g => g ow), if_pos (by omega), show f q - 100 = (a : Int) by omega, ra4 i (R + M + 1)]
          by_cases w : (k : Int) ≤ i ∧ i < k1
          · rw [if_pos w, if_pos ⟨w.1, by omega⟩, r3 i.toNat (by omega)]
          · rw [if_neg w]
            show (if (-1 : Int) < 0 then (if (a : Int) = s0 then _ else pcL c f Z s0 i (R + M) (ownF c (100 + (a : Int))) (peL f (100 + (a : Int)) Z 0 - 1) k1) else _) = _
            rw [if_pos (by decide), if_neg (by omega), ← ea, ow, pe_at rfl (fun j hj g => hinj j q hj (by omega) g) Z 0 (Nat.zero_le _) (by omega), r4 i M]
            by_cases w2 : (k1 : Int) ≤ i ∧ i < k'
            · rw [if_pos w2, if_pos ⟨by omega, w2.2⟩]
            · rw [if_neg w2, if_neg (by omega)]
theorem pc_all (hE : ∀ a : Nat, entE m c f N K Z a) (hN : m 1 = (N : Int)) (hK : m 0 = (K : Int)) (hp : parI m K) (hsc : ∀ j, j < Z → 100 ≤ f j → 100 < f j) (hinj : ∀ j k, j < k → k < Z → ¬ f j = f k) {s0 : Nat} : ∀ (n s : Nat) (p : Nat → Int) (k : Nat) (p' : Nat → Int) (k' : Nat), s < K → s0 ≤ s → plR m n s p k p' k' → ∃ R : Nat, (R : Int) ≤ Z + (Z + 2) * visN m N K s (m 6 + 1) ∧ PCS c f Z s0 s Z k k' p p' R
  | 0, s, p, k, p', k', _, _, h => h.elim
  | n + 1, s, p, k, p', k', hs, h0, ⟨j, h⟩ => pc_loop hE hN hK hp hsc hinj hs h0 (fun a p k p' k' h1 h2 h3 => pc_all hE hN hK hp hsc hinj n a p k p' k' h2 (by omega) h3) j _ p k p' k' Z (m 6 + 1) (Nat.le_refl _) (fun j hj _ => ⟨fun _ => hj, fun _ => by have := (hE s).2.2.2.2 j hj; omega⟩) rfl h
/-- the plan -/
theorem plan_both (hE : ∀ a : Nat, entE m c f N K Z a) (hN : m 1 = (N : Int)) (hK : m 0 = (K : Int)) (hp : parI m K) (hsc : ∀ j, j < Z → 100 ≤ f j → 100 < f j) (hinj : ∀ j k, j < k → k < Z → ¬ f j = f k) (hZ : Z ≤ 150) (h60 : K ≤ 60) {s : Nat} (hs : s < K) {p p' : Nat → Int} {k' n : Nat} (h : plR m n s p 0 p' k') {i : Int} : pcL c f Z s i 1000000 s ((Z : Int) - 1) 0 = planV p' k' i := by
  obtain ⟨R, r1, r2, r3, r4⟩ := pc_all hE hN hK hp hsc hinj (s0 := s) n s p 0 p' k' hs (Nat.le_refl _) h
  have v : visN m N K s (m 6 + 1) ≤ 60 := by
    have := (cnt_r (fun x => bP (vis m N K s (m 6 + 1) x)) K).2
    unfold visN; omega
  have v0 : 0 ≤ visN m N K s (m 6 + 1) := (cnt_r _ _).1
  have zb : ((Z : Int) + 2) * visN m N K s (m 6 + 1) ≤ 152 * 60 := Int.mul_le_mul (by omega) v v0 (by decide)
  have e : (1000000 : Nat) = R + (1000000 - R - 1 + 1) := by omega
  have y := r4 i (1000000 - R - 1 + 1)
  rw [← e] at y
  have y0 : ((0 : Nat) : Int) = 0 := rfl
  rw [y0] at y
  rw [y]
  have fin : pcL c f Z s i (1000000 - R - 1 + 1) s (-1) k' = if i = -1 then (k' : Int) else -1 := by
    show (if (-1 : Int) < 0 then (if (s : Int) = s then (if i = -1 then (k' : Int) else -1) else _) else _) = _
    rw [if_pos (by decide), if_pos rfl]
  rw [fin]
  unfold planV
  by_cases w : (0 : Int) ≤ i ∧ i < k'
  · rw [if_pos w, if_pos ⟨by omega, by omega⟩, if_neg (by omega)]
  · rw [if_neg w]
    by_cases z : i = -1
    · rw [if_pos z, if_pos ⟨by omega, by omega⟩, if_pos (by omega)]
    · rw [if_neg z, if_neg (by omega)]
end PN
end mg_c2
section mg_c3
/-! ===== both sides' worlds, kept by the calls ===== -/
def CTR (m pool : Nat → Int) (S : Nat → Option mO) (c : Nat → Int) (C : Nat → Nat → Int) (nm : Nat → Int64) (g : Nat → Option Nat) : Prop := CR m pool S c C nm g ∧ TKR m pool c S g 99
section CT
variable {m m' pool pool' c c' : Nat → Int} {S S' : Nat → Option mO} {C C' : Nat → Nat → Int} {nm nm' : Nat → Int64} {g g' : Nat → Option Nat} {B : Int}
/-- the tasks' cells are not touched -/
theorem ctr_of (h : CTR m pool S c C nm g) (hT : TkM m pool 99) (hok : mOk m) (hC : CR m' pool S c' C' nm' g') (k1 : ∀ j, 180 ≤ j → g' j = g j) (k2 : ∀ q, 488 ≤ q → (∀ t : Nat, q ≠ 496 + 9 * t) → c' q = c q) (k3 : c' 3 = c 3) (h3 : m' 3 = m 3) (h7 : m' 7 = m 7) (hm : ∀ q, 1608 ≤ q → q < 2328 → (∀ t : Nat, q ≠ 1614 + 72 * t) → m' q = m q) : CTR m' pool S c' C' nm' g' :=
  ⟨hC, h.2.kq hok.2.2.2.2.1.2 hT.nn k1 k2 k3 h3 h7 hm⟩
/-- more objects, more texts in the pool -/
theorem ctr_grow (h : CTR m pool S c C nm g) (hI : Inv m pool B) (hT : TkM m pool 99) (hS : ∀ a o, S a = some o → S' a = some o) (hp : ∀ q : Nat, (q : Int) < m 8 → pool' q = pool q) : CTR m pool' S' c C nm g := by
  obtain ⟨⟨n, T, A, K, L, E, F, Gg, R⟩, h3, hK⟩ := h
  have st : ∀ {it : Bool} {n o b hi p E : Nat}, (E : Int) < m 8 → stL S pool n it o b hi p E → stL S' pool' n it o b hi p E := fun {it n o b hi p E} hE k => by
    have y := stL_2 (sr := pool) (sr' := pool') (d := 0) (d' := 0) n it o b hi p E (fun j _ hj => hp j (by omega)) k
    exact stL_S hS n it o b hi p E y
  refine ⟨⟨n, T, A, K, L, E, F, fun t ht => ?_, R⟩, h3, fun q hq => ?_⟩
  · obtain ⟨P, E, e1, e2, e3⟩ := Gg t ht
    obtain ⟨-, -, -, P', E', f1, f2, -, -, f5⟩ := hI.2.2.1 t ht
    obtain rfl : P' = P := by omega
    obtain rfl : E' = E := by omega
    refine ⟨P', E', e1, e2, ?_⟩
    rcases e3 with e3 | ⟨b, hi, n, e4, e5⟩
    · exact Or.inl e3
    · have := stL_lt e5
      rcases f5 with f5 | f5
      · omega
      · exact Or.inr ⟨b, hi, n, e4, st f5.1 e5⟩
  · obtain ⟨⟨a1, a2, a3, a4, a5, a6, b, hi, n, P, E, e1, e2, e3, e4⟩, hC⟩ := hK q hq
    obtain ⟨-, -, -, -, -, -, -, -, P0, E0, f1, f2, f3, -⟩ := (hT.2 q hq).1
    refine ⟨⟨a1, a2, a3, a4, a5, a6, b, hi, n, P, E, e1, e2, e3, st (by omega) e4⟩, fun z z2 => ?_⟩
    obtain ⟨z0, o, p, E', r1, r2, r3, r4, r5⟩ := hC z z2
    refine ⟨z0, o, p, E', r1, r2, r3, r4, ?_⟩
    rcases r5 with r5 | ⟨r5, b', hi', n', r6, r7⟩
    · exact Or.inl r5
    · exact Or.inr ⟨r5, b', hi', n', r6, st (by omega) r7⟩
theorem ctr_m8 (h : CTR m pool S c C nm g) (hT : TkM m pool 99) (hok : mOk m) {v : Int} : CTR (updI m 8 v) pool S c C nm g := by
  have um : ∀ j, ¬ j = 8 → updI m 8 v j = m j := fun j w => updI_n w
  refine ctr_of h hT hok (h.1.see hok (Int.le_refl _) (fun j hj => um j (by rcases hj with w | w | w | ⟨t, w | w⟩ <;> omega)) (fun _ _ => rfl) (by obtain ⟨⟨-, -, -, -, -, -, -, -, R⟩, -⟩ := h; exact R.1) (fun _ _ => rfl)) (fun _ _ => rfl) (fun _ _ _ => rfl) rfl (um 3 (by omega)) (um 7 (by omega)) (fun q a b _ => um q (by omega))
theorem ctr_open (h : CTR m pool S c C nm g) (hT : TkM m pool 99) (hok : mOk m) {N p Z : Nat} {t : Int} (hN : m 0 = (N : Int)) (h9 : N < 60) (hN1 : 1 ≤ N) (hp : p < 60) (ht : InR t) (hZ : c 10 = (Z : Int)) : CTR (opensM m N p t) pool S (adE (asC c N (p : Int) t) Z) (updC C 2 (updI (C 2) Z (100 + (N : Int)))) nm g := by
  obtain ⟨o0, o1, o2, o3, o4, o6, oe⟩ := opensM_at (m := m) (C := N) (p := (p : Int)) (t := t)
  have uc : ∀ j, (488 ≤ j ∨ j = 3) → adE (asC c N (p : Int) t) Z j = c j := fun j hj => by
    unfold adE asC
    rw [updI_n (by omega), updI_n (by omega), updI_n (by omega), updI_n (by omega), updI_n (by omega)]
  exact ctr_of h hT hok (CR_opens h.1 hok hN h9 hN1 hp ht hZ) (fun _ _ => rfl) (fun q a _ => uc q (Or.inl a)) (uc 3 (Or.inr rfl)) (oe 3 (by omega) (by omega) (by omega)) (oe 7 (by omega) (by omega) (by omega)) (fun q a b _ => oe q (by omega) (by omega) (by omega))
theorem ctr_move (h : CTR m pool S c C nm g) (hT : TkM m pool 99) (hok : mOk m) {t Z : Nat} {s : Int} (ht : (t : Int) < m 1) (h0 : m (258 + 14 * t) = 0) (hs : InR s) (hZ : c 10 = (Z : Int)) : CTR (movesM m t s) pool S (mvC c t s (cnt (notB (t : Int) (C 2)) Z)) (mvD C Z t) nm g := by
  have k1 := hok.2.2.1
  have e : ∀ q, ¬ q = 6 → ¬ q = 259 + 14 * t → ¬ q = 260 + 14 * t → movesM m t s q = m q := fun q a b c => by unfold movesM; rw [updI_n c, updI_n a, updI_n b]
  have uc : ∀ j, (488 ≤ j ∨ j = 3) → mvC c t s (cnt (notB (t : Int) (C 2)) Z) j = c j := fun j hj => by
    unfold mvC
    rw [updI_n (by omega), updI_n (by omega), updI_n (by omega)]
  exact ctr_of h hT hok (CR_move h.1 hok ht h0 hs hZ) (fun _ _ => rfl) (fun q a _ => uc q (Or.inl a)) (uc 3 (Or.inr rfl)) (e 3 (by omega) (by omega) (by omega)) (e 7 (by omega) (by omega) (by omega)) (fun q a b _ => e q (by omega) (by omega) (by omega))
theorem ctr_count (h : CTR m pool S c C nm g) (hT : TkM m pool 99) (hok : mOk m) {k : Nat} {v : Int} (hk : k < 8) (hv : InR v) : CTR (updI m (10 + k) v) pool S c (updC C 0 (updI (C 0) k v)) nm g :=
  ctr_of h hT hok (CR_count h.1 hok (Int.le_refl _) hk hv) (fun _ _ => rfl) (fun _ _ _ => rfl) rfl (updI_n (by omega)) (updI_n (by omega)) (fun q a b _ => updI_n (by omega))
theorem ctr_cancel (h : CTR m pool S c C nm g) (hT : TkM m pool 99) (hok : mOk m) {q : Nat} (hq : q < 10) : CTR (updI m (1614 + 72 * q) 1) pool S (updI c (496 + 9 * q) 1) C nm g :=
  ctr_of h hT hok (CR_tk h.1 hok (Int.le_refl _) hq (by decide)).2 (fun _ _ => rfl) (fun j _ d => updI_n (d q)) (updI_n (by omega)) (updI_n (by omega)) (updI_n (by omega)) (fun j _ _ d => updI_n (d q))
theorem ctr_rank (h : CTR m pool S c C nm g) (hT : TkM m pool 99) (hok : mOk m) {q : Nat} {p : Int} (hq : (q : Int) < m 3) (hp : InR p) : CTR (updI m (1609 + 72 * q) p) pool S (updI c (490 + 9 * q) p) C nm g := by
  have k3 := hok.2.2.2.2.1
  have um : ∀ j, ¬ j = 1609 + 72 * q → updI m (1609 + 72 * q) p j = m j := fun j w => updI_n w
  have uc : ∀ j, ¬ j = 490 + 9 * q → updI c (490 + 9 * q) p j = c j := fun j w => updI_n w
  obtain ⟨hC, hK⟩ := h
  have y : CR (updI m (1609 + 72 * q) p) pool S (updI c (490 + 9 * q) p) C nm g := hC.see hok (Int.le_refl _) (fun j hj => um j (fun w => by
    subst w
    rcases hj with w | w | w | ⟨t, w | w⟩ <;> omega)) (fun j hj => uc j (fun w => by
    subst w
    rcases hj with w | w | w | w | w | ⟨t, w | w⟩ <;> omega)) (fun j => by
    obtain ⟨-, -, -, -, -, -, -, -, R⟩ := hC
    by_cases w : j = 490 + 9 * q
    · subst w; rw [updI_s]; exact hp
    · rw [uc j w]; exact R.1 j) (fun _ _ => rfl)
  have hKq : TKR m pool c S g q := ⟨hK.1, fun u hu => ⟨(hK.2 u hu).1, fun _ => (hK.2 u hu).2 (by omega)⟩⟩
  obtain ⟨kA, kC⟩ := hK.2 q hq
  refine ⟨y, (hKq.ch (m' := updI m (1609 + 72 * q) p) (c' := updI c (490 + 9 * q) p) (g' := g) k3.2 hT.nn (um 3 (by omega)) (by rw [uc 3 (by omega), um 7 (by omega)]; exact hK.1) (fun j a b d w => um j (by omega)) (fun j a b w => uc j (by omega)) (fun _ _ _ => rfl) (fun _ => ?_)).fin (fun z => ?_)⟩
  · obtain ⟨b1, b2, b3, b4, b5, b6, b7, b8, b9, P', E', b10, b11, b12, b13⟩ := kA
    refine ⟨?_, by rw [updI_s, updI_s], ?_, ?_, ?_, ?_, b7, b8, b9, P', E', ?_, ?_, b12, b13⟩
    · rw [uc _ (by omega), um _ (by omega)]; exact b1
    · rw [uc _ (by omega), um _ (by omega)]; exact b3
    · rw [uc _ (by omega), um _ (by omega)]; exact b4
    · rw [uc _ (by omega), um _ (by omega)]; exact b5
    · rw [uc _ (by omega), um _ (by omega)]; exact b6
    · rw [um _ (by omega)]; exact b10
    · rw [um _ (by omega)]; exact b11
  · rw [um _ (by omega)] at z
    obtain ⟨z0, o, p', E, r1, r2, r3, r4, r5⟩ := kC (by omega) z
    exact ⟨by rw [um _ (by omega)]; exact z0, o, p', E, by rw [um _ (by omega)]; exact r1, by rw [um _ (by omega)]; exact r2, by rw [um _ (by omega)]; exact r3, by rw [uc _ (by omega), um _ (by omega)]; exact r4, r5⟩
theorem ctr_take (h : CTR m pool S c C nm g) (hT : TkM m pool 99) (hok : mOk m) {rc : Nat → Int} {N fr to P E Z : Nat} {o : Int} {inn : Option Nat} (hN : m 1 = (N : Int)) (h9 : N < 90) (hn : 1 ≤ to - fr ∧ to - fr ≤ 7) (hft : fr ≤ to) (hl : ∀ j, fr ≤ j → j < to → isLt (rc j)) (ho : InR o) (hx : tpO S pool inn P E) (hZ : c 10 = (Z : Int)) :
    CTR (takesM m rc N o fr to P E) pool S (adE (adC c N o) Z) (updC C 2 (updI (C 2) Z (N : Int))) (updL nm N (nmY rc fr to)) (updO g (2 * N) inn) := by
  have um : ∀ q, ¬ q = 1 → ¬ q = 6 → (q < 258 + 14 * N ∨ 272 + 14 * N ≤ q) → takesM m rc N o fr to P E q = m q := fun q a b d => takesM_n hn.2 a b d
  have uc : ∀ j, (488 ≤ j ∨ j = 3) → adE (adC c N o) Z j = c j := fun j hj => by
    unfold adE adC
    rw [updI_n (by omega), updI_n (by omega), updI_n (by omega), updI_n (by omega), updI_n (by omega)]
  exact ctr_of h hT hok (CR_take h.1 hok hN h9 hn hft hl ho hx hZ) (fun j hj => updO_n (by omega)) (fun q a _ => uc q (Or.inl a)) (uc 3 (Or.inr rfl)) (um 3 (by omega) (by omega) (by omega)) (um 7 (by omega) (by omega) (by omega)) (fun q a b _ => um q (by omega) (by omega) (by omega))
/-- another name -/
theorem ctr_rename (h : CTR m pool S c C nm g) (hT : TkM m pool 99) (hok : mOk m) {rc : Nat → Int} {t e : Nat} (ht : (t : Int) < m 1) (hn : 1 ≤ e ∧ e ≤ 7) (hl : ∀ j, j < e → isLt (rc j)) : CTR (namesM m rc t 0 e) pool S c C (updL nm t (nmY rc 0 e)) g := by
  have k0 := hok.2.1
  have k1 := hok.2.2.1
  have k2 := hok.2.2.2.1
  have k3 := hok.2.2.2.2.1
  have um : ∀ q, (q < 261 + 14 * t ∨ 272 + 14 * t ≤ q) → namesM m rc t 0 e q = m q := fun q hq => by
    rw [namesM_at, if_neg (by omega), updI_n (by omega)]
  have u2 : ∀ q, q = 262 + 14 * t ∨ q = 263 + 14 * t ∨ q = 264 + 14 * t → namesM m rc t 0 e q = m q := fun q hq => by
    rw [namesM_at, if_neg (by omega), updI_n (by omega)]
  have ln : namesM m rc t 0 e (261 + 14 * t) = e := by
    rw [namesM_at, if_neg (by omega), updI_s]; omega
  have nmv : ∀ j, j < e → namesM m rc t 0 e (265 + 14 * t + j) = rc j := fun j hj => by
    rw [namesM_at, if_pos ⟨by omega, by omega⟩]; congr 1; omega
  obtain ⟨⟨n, T, A, K, L, ⟨Z, e0⟩, ⟨F, f⟩, G, R⟩, hK⟩ := id h
  have fb := f.2.1
  have yC : CR (namesM m rc t 0 e) pool S c C (updL nm t (nmY rc 0 e)) g := by
    refine ⟨?_, fun u hu => ?_, ?_, ?_, ?_, ⟨Z, ?_⟩, ⟨F, ?_⟩, ?_, R⟩
    · unfold crN
      rw [um 0 (by omega), um 1 (by omega), um 2 (by omega), um 3 (by omega)]
      exact n
    · rw [um 1 (by omega)] at hu
      obtain ⟨t1, t2, t3, t4, t5⟩ := T u hu
      by_cases w : u = t
      · subst w
        rw [um (258 + 14 * u) (by omega), um (259 + 14 * u) (by omega), u2 (264 + 14 * u) (by omega)]
        refine ⟨t1, t2, t3, ?_, ?_⟩
        · unfold updL nmR nmY nmN
          rw [if_pos rfl, ln, show ((e : Int)).toNat = e by omega]
          have y : cdN (nmG rc 0 e) 7 = cdN (nmG (namesM m rc u 0 e) (265 + 14 * u) (265 + 14 * u + e)) 7 := cdN_c 7 (fun j hj => by
            unfold nmG
            by_cases z : j < e
            · rw [if_pos (by omega), if_pos (by omega), nmv j z, Nat.zero_add]
            · rw [if_neg (by omega), if_neg (by omega)])
          rw [y]
        · unfold nmOk
          rw [ln]
          exact ⟨⟨by omega, by omega⟩, fun j hj => by rw [nmv j (by omega)]; exact hl j (by omega)⟩
      · have q4 : ∀ q, 258 + 14 * u ≤ q → q < 272 + 14 * u → namesM m rc t 0 e q = m q := fun q a b => um q (by omega)
        rw [q4 _ (by omega) (by omega), q4 _ (by omega) (by omega), q4 _ (by omega) (by omega)]
        refine ⟨t1, t2, t3, ?_, nmOk_c (q4 _ (by omega) (by omega)) (fun j hj => q4 _ (by omega) (by omega)) t5⟩
        rw [show updL nm t (nmY rc 0 e) u = nm u by unfold updL; rw [if_neg w]]
        exact t4.trans (nmR_c (q4 _ (by omega) (by omega)) t5.1.2 (fun j hj => q4 _ (by omega) (by omega))).symm
    · exact crS_c A k0.2 (um 0 (by omega)) (fun q a b => um q (by omega)) (fun _ _ _ => rfl)
    · exact crK_c K (um 3 (by omega)) (fun q a b => um q (by omega)) (fun _ _ => rfl) k3.2
    · exact crL_c L k2.2 (um 2 (by omega)) (fun q a b => um q (by omega)) (fun q a b => um q (by omega)) rfl rfl
    · refine crE_c e0 k1.2 rfl (um 0 (by omega)) (um 1 (by omega)) (um 6 (by omega)) (fun u hu => ?_) (fun u hu hb => ?_)
      · by_cases w : u = t
        · subst w; rw [um (258 + 14 * u) (by omega), um (260 + 14 * u) (by omega)]; exact ⟨Iff.rfl, rfl⟩
        · rw [um (258 + 14 * u) (by omega), um (260 + 14 * u) (by omega)]; exact ⟨Iff.rfl, rfl⟩
      · rw [um (18 + 4 * u) (by omega), um (20 + 4 * u) (by omega)]; exact ⟨Iff.rfl, rfl⟩
    · exact crF_c f (by omega) rfl rfl rfl rfl (um 2 (by omega)) (um 4 (by omega)) (um 5 (by omega)) (fun q a b => um q (by omega)) rfl rfl rfl
    · refine crG_c G k1.2 (um 1 (by omega)) (fun u hu => ?_) (fun _ _ => rfl)
      by_cases w : u = t
      · subst w; exact ⟨u2 _ (by omega), u2 _ (by omega)⟩
      · exact ⟨um _ (by omega), um _ (by omega)⟩
  exact ctr_of h hT hok yC (fun _ _ => rfl) (fun _ _ _ => rfl) rfl (um 3 (by omega)) (um 7 (by omega)) (fun q a b _ => um q (by omega))
end CT
end mg_c3
section mg_c4
/-! ===== a new task, on both sides ===== -/
section NT
variable {m pool c : Nat → Int} {S : Nat → Option mO} {C : Nat → Nat → Int} {nm : Nat → Int64} {g : Nat → Option Nat}
theorem nt_o {a b : Int} {len T N : Nat} (hT3 : m 3 = (T : Int)) (hN : m 0 = (N : Int)) {q : Nat} (h : q < 1608 + 72 * T ∨ 1680 + 72 * T ≤ q) : newTaskM m a b len q = opensM (updI (zrF (updI m 3 (m 3 + 1)) (1608 + 72 * T) 72) 8 (m 8 + (len : Nat) + 1)) N a (m 3) q := by
  unfold newTaskM
  rw [hT3, hN, show ((T : Int)).toNat = T by omega, show ((N : Int)).toNat = N by omega, updI_n (by omega), updI_n (by omega), updI_n (by omega), updI_n (by omega), updI_n (by omega), updI_n (by omega), updI_n (by omega)]
theorem nt_v {a b : Int} {len T N : Nat} (hT3 : m 3 = (T : Int)) (hN : m 0 = (N : Int)) (h60 : N < 60) : newTaskM m a b len (1608 + 72 * T) = N ∧ newTaskM m a b len (1609 + 72 * T) = b ∧ newTaskM m a b len (1611 + 72 * T) = m 8 ∧ newTaskM m a b len (1616 + 72 * T) = m 8 ∧ newTaskM m a b len (1617 + 72 * T) = m 8 + len ∧ newTaskM m a b len (1619 + 72 * T) = 1 ∧ newTaskM m a b len (1620 + 72 * T) = N ∧
    ∀ q, (q = 1610 + 72 * T ∨ q = 1612 + 72 * T ∨ q = 1613 + 72 * T ∨ q = 1614 + 72 * T ∨ q = 1615 + 72 * T ∨ q = 1618 + 72 * T) → newTaskM m a b len q = 0 := by
  have oz : ∀ q, 1608 + 72 * T ≤ q → q < 1680 + 72 * T → opensM (updI (zrF (updI m 3 (m 3 + 1)) (1608 + 72 * T) 72) 8 (m 8 + (len : Nat) + 1)) N a (m 3) q = 0 := fun q h1 h2 => by
    obtain ⟨-, -, -, -, -, -, oe⟩ := opensM_at (m := updI (zrF (updI m 3 (m 3 + 1)) (1608 + 72 * T) 72) 8 (m 8 + (len : Nat) + 1)) (C := N) (p := a) (t := m 3)
    rw [oe q (by omega) (by omega) (by omega), updI_n (by omega)]
    unfold zrF
    rw [if_pos ⟨h1, by omega⟩]
  unfold newTaskM
  rw [hT3, hN, show ((T : Int)).toNat = T by omega, show ((N : Int)).toNat = N by omega]
  rw [hT3] at oz
  refine ⟨?_, ?_, ?_, ?_, ?_, ?_, ?_, fun q hq => ?_⟩
  · rw [updI_n (by omega), updI_n (by omega), updI_n (by omega), updI_n (by omega), updI_n (by omega), updI_n (by omega), updI_s]
  · rw [updI_n (by omega), updI_n (by omega), updI_n (by omega), updI_n (by omega), updI_n (by omega), updI_s]
  · rw [updI_n (by omega), updI_n (by omega), updI_n (by omega), updI_n (by omega), updI_s]
  · rw [updI_n (by omega), updI_n (by omega), updI_n (by omega), updI_s]
  · rw [updI_n (by omega), updI_n (by omega), updI_s]
  · rw [updI_n (by omega), updI_s]
  · rw [updI_s]
  · rw [updI_n (by omega), updI_n (by omega), updI_n (by omega), updI_n (by omega), updI_n (by omega), updI_n (by omega), updI_n (by omega)]
    exact oz q (by omega) (by omega)
/-- one more task that is ready, its cells aside -/
theorem CR_newt {m' c' : Nat → Int} {g' : Nat → Option Nat} {T : Nat} (h : CR m pool S c C nm g) (hok : mOk m) (hT9 : T < 10) (hT3 : m 3 = (T : Int)) (h3 : m' 3 = m 3 + 1) (hm : ∀ q, ¬ q = 3 → ¬ q = 8 → (q < 1608 + 72 * T ∨ 1680 + 72 * T ≤ q) → m' q = m q) (m10 : m' (1610 + 72 * T) = 0) (m14 : m' (1614 + 72 * T) = 0) (h2 : c' 2 = c 2 + 1) (hc : ∀ q, ¬ q = 2 → (q < 488 + 9 * T ∨ 497 + 9 * T ≤ q) → c' q = c q) (c89 : c' (489 + 9 * T) = 0) (c96 : c' (496 + 9 * T) = 0) (hr : ∀ q, InR (c' q)) (hg : ∀ t, t < 90 → g' (2 * t) = g (2 * t)) : CR m' pool S c' C nm g' := by
  obtain ⟨n, T0, A, K, L, ⟨Z, e⟩, ⟨F, f⟩, G, R⟩ := h
  have k0 := hok.2.1
  have k1 := hok.2.2.1
  have k2 := hok.2.2.2.1
  have k3 := hok.2.2.2.2.1
  have fb := f.2.1
  have lo : ∀ q, ¬ q = 3 → ¬ q = 8 → q < 1608 → m' q = m q := fun q a b d => hm q a b (by omega)
  refine ⟨?_, crT_c T0 k1.2 (lo 1 (by omega) (by omega) (by omega)) (fun q a b => lo q (by omega) (by omega) (by omega)) (fun q a b => hc q (by omega) (by omega)) rfl, crS_c A k0.2 (lo 0 (by omega) (by omega) (by omega)) (fun q a b => lo q (by omega) (by omega) (by omega)) (fun q a b => hc q (by omega) (by omega)), fun q hq => ?_, crL_c L k2.2 (lo 2 (by omega) (by omega) (by omega)) (fun q a b => lo q (by omega) (by omega) (by omega)) (fun q a b => lo q (by omega) (by omega) (by omega)) rfl rfl, ⟨Z, ?_⟩, ⟨F, ?_⟩, crG_c G k1.2 (lo 1 (by omega) (by omega) (by omega)) (fun u hu => ⟨lo _ (by omega) (by omega) (by omega), lo _ (by omega) (by omega) (by omega)⟩) hg, hr, R.2⟩
  · unfold crN
    rw [h3, h2, lo 0 (by omega) (by omega) (by omega), lo 1 (by omega) (by omega) (by omega), lo 2 (by omega) (by omega) (by omega), hc 0 (by omega) (by omega), hc 1 (by omega) (by omega), hc 8 (by omega) (by omega), hc 9 (by omega) (by omega)]
    exact ⟨n.1, n.2.1, by rw [n.2.2.1], n.2.2.2⟩
  · rw [h3] at hq
    by_cases w : q = T
    · subst w; rw [m10, m14, c89, c96]; exact ⟨rfl, rfl⟩
    · rw [hm _ (by omega) (by omega) (by omega), hm _ (by omega) (by omega) (by omega), hc _ (by omega) (by omega), hc _ (by omega) (by omega)]
      exact K q (by omega)
  · exact crE_c e k1.2 (hc 10 (by omega) (by omega)) (lo 0 (by omega) (by omega) (by omega)) (lo 1 (by omega) (by omega) (by omega)) (lo 6 (by omega) (by omega) (by omega)) (fun u hu => by rw [lo _ (by omega) (by omega) (by omega), lo _ (by omega) (by omega) (by omega)]; exact ⟨Iff.rfl, rfl⟩) (fun u hu hb => by rw [lo _ (by omega) (by omega) (by omega), lo _ (by omega) (by omega) (by omega)]; exact ⟨Iff.rfl, rfl⟩)
  · exact crF_c f (by omega) (hc 11 (by omega) (by omega)) (hc 12 (by omega) (by omega)) (hc 13 (by omega) (by omega)) (hc 4 (by omega) (by omega)) (lo 2 (by omega) (by omega) (by omega)) (lo 4 (by omega) (by omega) (by omega)) (lo 5 (by omega) (by omega) (by omega)) (fun q a b => hm q (by omega) (by omega) (by omega)) rfl rfl rfl
theorem ctr_task (h : CTR m pool S c C nm g) (hT : TkM m pool 99) (hok : mOk m) (h1 : 1 ≤ m 0) (h6 : InR (m 6 + 1)) (h8 : 0 ≤ m 8 ∧ m 8 + 130 ≤ 12342) {T N Z len a P : Nat} {b : Int} {s hi n : Nat} (hT3 : m 3 = (T : Int)) (hT9 : T < 10) (hN : m 0 = (N : Int)) (h60 : N < 60) (ha : a < 60) (hb : -99 ≤ b ∧ b ≤ 99) (hP : m 8 = (P : Int)) (hlen : len ≤ 120) (hZ : c 10 = (Z : Int)) (hL : stL S pool n true 0 s hi P (P + len)) :
    CTR (newTaskM m a b len) pool S (atC c T N Z (a : Int) b) (updC C 2 (updI (C 2) Z (100 + (N : Int)))) nm (tsG g T (some s)) := by
  obtain ⟨hC, hK⟩ := h
  obtain ⟨n0, T0, A, K, L, ⟨Z', e⟩, ⟨F, f⟩, G, R⟩ := id hC
  obtain ⟨v1, v2, v3, v4, v5, v6, v7, v8⟩ := nt_v (a := (a : Int)) (b := b) (len := len) hT3 hN h60
  have lt := stL_lt hL
  -- the row with the new task, its scope not yet there
  have zo : ∀ q, ¬ q = 3 → ¬ q = 8 → (q < 1608 + 72 * T ∨ 1680 + 72 * T ≤ q) → updI (zrF (updI m 3 (m 3 + 1)) (1608 + 72 * T) 72) 8 (m 8 + (len : Nat) + 1) q = m q := fun q h1 h2 h3 => by
    rw [updI_n h2]; unfold zrF; rw [if_neg (by omega), updI_n h1]
  have zz : ∀ q, ¬ q = 8 → 1608 + 72 * T ≤ q → q < 1680 + 72 * T → updI (zrF (updI m 3 (m 3 + 1)) (1608 + 72 * T) 72) 8 (m 8 + (len : Nat) + 1) q = 0 := fun q h1 h2 h3 => by
    rw [updI_n h1]; unfold zrF; rw [if_pos ⟨h2, by omega⟩]
  have z3 : updI (zrF (updI m 3 (m 3 + 1)) (1608 + 72 * T) 72) 8 (m 8 + (len : Nat) + 1) 3 = m 3 + 1 := by
    rw [updI_n (by omega)]; unfold zrF; rw [if_neg (by omega), updI_s]
  have z8 : updI (zrF (updI m 3 (m 3 + 1)) (1608 + 72 * T) 72) 8 (m 8 + (len : Nat) + 1) 8 = m 8 + (len : Nat) + 1 := updI_s
  have hok2 : mOk (updI (zrF (updI m 3 (m 3 + 1)) (1608 + 72 * T) 72) 8 (m 8 + (len : Nat) + 1)) := by
    refine ⟨fun q => ?_, ?_⟩
    · by_cases q8 : q = 8
      · subst q8; rw [z8]; exact ⟨by omega, by omega⟩
      · by_cases q3 : q = 3
        · subst q3; rw [z3]; exact ⟨by omega, by omega⟩
        · by_cases w : 1608 + 72 * T ≤ q ∧ q < 1680 + 72 * T
          · rw [zz q q8 w.1 w.2]; decide
          · rw [zo q q3 q8 (by omega)]; exact hok.1 q
    · rw [z3, zo 0 (by omega) (by omega) (by omega), zo 1 (by omega) (by omega) (by omega), zo 2 (by omega) (by omega) (by omega), zo 4 (by omega) (by omega) (by omega), zo 5 (by omega) (by omega) (by omega)]
      have k1 := hok.2.2.1
      exact ⟨hok.2.1, k1, hok.2.2.2.1, ⟨by omega, by omega⟩, hok.2.2.2.2.2.1, hok.2.2.2.2.2.2.1, fun u hu => by rw [zo _ (by omega) (by omega) (by omega)]; exact hok.2.2.2.2.2.2.2 u hu⟩
  have k0 := hok.2.1
  have k1 := hok.2.2.1
  have k3 := hok.2.2.2.2.1
  have to : ∀ q, ¬ q = 2 → (q < 488 + 9 * T ∨ 497 + 9 * T ≤ q) → tsC (updI c 2 ((T : Int) + 1)) T (N : Int) b q = c q := fun q h1 h2 => by
    unfold tsC
    rw [updI_n (by omega), updI_n (by omega), updI_n (by omega), updI_n (by omega), updI_n (by omega), updI_n (by omega), updI_n (by omega), updI_n (by omega), updI_n (by omega), updI_n h1]
  have tv : ∀ {x : Nat → Int}, tsC x T (N : Int) b (488 + 9 * T) = 0 ∧ tsC x T (N : Int) b (489 + 9 * T) = 0 ∧ tsC x T (N : Int) b (490 + 9 * T) = b ∧ tsC x T (N : Int) b (491 + 9 * T) = 0 ∧ tsC x T (N : Int) b (492 + 9 * T) = 0 ∧ tsC x T (N : Int) b (493 + 9 * T) = N ∧ tsC x T (N : Int) b (494 + 9 * T) = N ∧ tsC x T (N : Int) b (495 + 9 * T) = 0 ∧ tsC x T (N : Int) b (496 + 9 * T) = 0 := fun {x} => by
    unfold tsC
    refine ⟨?_, ?_, ?_, ?_, ?_, ?_, ?_, ?_, updI_s⟩
    · rw [updI_n (by omega), updI_n (by omega), updI_n (by omega), updI_n (by omega), updI_n (by omega), updI_n (by omega), updI_n (by omega), updI_n (by omega), updI_s]
    · rw [updI_n (by omega), updI_n (by omega), updI_n (by omega), updI_n (by omega), updI_n (by omega), updI_n (by omega), updI_n (by omega), updI_s]
    · rw [updI_n (by omega), updI_n (by omega), updI_n (by omega), updI_n (by omega), updI_n (by omega), updI_n (by omega), updI_s]
    · rw [updI_n (by omega), updI_n (by omega), updI_n (by omega), updI_n (by omega), updI_n (by omega), updI_s]
    · rw [updI_n (by omega), updI_n (by omega), updI_n (by omega), updI_n (by omega), updI_s]
    · rw [updI_n (by omega), updI_n (by omega), updI_n (by omega), updI_s]
    · rw [updI_n (by omega), updI_n (by omega), updI_s]
    · rw [updI_n (by omega), updI_s]
  have tr : ∀ q, InR (tsC (updI c 2 ((T : Int) + 1)) T (N : Int) b q) := by
    unfold tsC
    exact updI_r (updI_r (updI_r (updI_r (updI_r (updI_r (updI_r (updI_r (updI_r (updI_r R.1 ⟨by omega, by omega⟩) (by decide)) (by decide)) ⟨by omega, by omega⟩) (by decide)) (by decide)) ⟨by omega, by omega⟩) ⟨by omega, by omega⟩) (by decide)) (by decide)
  have y1 : CR (updI (zrF (updI m 3 (m 3 + 1)) (1608 + 72 * T) 72) 8 (m 8 + (len : Nat) + 1)) pool S (tsC (updI c 2 ((T : Int) + 1)) T (N : Int) b) C nm (tsG g T (some s)) :=
    CR_newt hC hok hT9 hT3 z3 zo (zz _ (by omega) (by omega) (by omega)) (zz _ (by omega) (by omega) (by omega)) (by
      unfold tsC
      rw [updI_n (by omega), updI_n (by omega), updI_n (by omega), updI_n (by omega), updI_n (by omega), updI_n (by omega), updI_n (by omega), updI_n (by omega), updI_n (by omega), updI_s, n0.2.2.1, hT3]) to tv.2.1 tv.2.2.2.2.2.2.2.2 tr (fun t ht => by unfold tsG; rw [updO_n (by omega), updO_n (by omega)])
  have y2 := CR_opens y1 hok2 (N := N) (p := a) (t := (T : Int)) (Z := Z) (by rw [zo 0 (by omega) (by omega) (by omega)]; exact hN) h60 (by omega) ha ⟨by omega, by omega⟩ (by rw [to 10 (by omega) (by omega)]; exact hZ)
  obtain ⟨o0, o1, o2, o3, o4, o6, oe⟩ := opensM_at (m := updI (zrF (updI m 3 (m 3 + 1)) (1608 + 72 * T) 72) 8 (m 8 + (len : Nat) + 1)) (C := N) (p := (a : Int)) (t := (T : Int))
  have same : ∀ q, (q < 1608 + 72 * T ∨ 1680 + 72 * T ≤ q) → newTaskM m a b len q = opensM (updI (zrF (updI m 3 (m 3 + 1)) (1608 + 72 * T) 72) 8 (m 8 + (len : Nat) + 1)) N a (T : Int) q := fun q hq => by
    rw [nt_o hT3 hN hq, hT3]
  -- the class's cells, in the other order
  have cs : ∀ q, atC c T N Z (a : Int) b q = adE (asC (tsC (updI c 2 ((T : Int) + 1)) T (N : Int) b) N (a : Int) (T : Int)) Z q := fun q => by
    unfold atC
    by_cases w : 488 + 9 * T ≤ q ∧ q < 497 + 9 * T
    · have e1 : adE (asC (tsC (updI c 2 ((T : Int) + 1)) T (N : Int) b) N (a : Int) (T : Int)) Z q = tsC (updI c 2 ((T : Int) + 1)) T (N : Int) b q := by
        unfold adE asC
        rw [updI_n (by omega), updI_n (by omega), updI_n (by omega), updI_n (by omega), updI_n (by omega)]
      rw [e1]
      obtain ⟨a1, a2, a3, a4, a5, a6, a7, a8, a9⟩ := tv (x := adE (asC (updI c 2 ((T : Int) + 1)) N (a : Int) (T : Int)) Z)
      obtain ⟨b1, b2, b3, b4, b5, b6, b7, b8, b9⟩ := tv (x := updI c 2 ((T : Int) + 1))
      have hq : q = 488 + 9 * T ∨ q = 489 + 9 * T ∨ q = 490 + 9 * T ∨ q = 491 + 9 * T ∨ q = 492 + 9 * T ∨ q = 493 + 9 * T ∨ q = 494 + 9 * T ∨ q = 495 + 9 * T ∨ q = 496 + 9 * T := by omega
      rcases hq with rfl | rfl | rfl | rfl | rfl | rfl | rfl | rfl | rfl
      · rw [a1, b1]
      · rw [a2, b2]
      · rw [a3, b3]
      · rw [a4, b4]
      · rw [a5, b5]
      · rw [a6, b6]
      · rw [a7, b7]
      · rw [a8, b8]
      · rw [a9, b9]
    · have e1 : ∀ (x : Nat → Int) j, ¬ (488 + 9 * T ≤ j ∧ j < 497 + 9 * T) → tsC x T (N : Int) b j = x j := fun x j hj => by
        unfold tsC
        rw [updI_n (by omega), updI_n (by omega), updI_n (by omega), updI_n (by omega), updI_n (by omega), updI_n (by omega), updI_n (by omega), updI_n (by omega), updI_n (by omega)]
      rw [e1 _ q w]
      unfold adE asC
      have up : ∀ {x y : Nat → Int} {k : Nat} {v : Int}, (¬ q = k → x q = y q) → updI x k v q = updI y k v q := fun {x y k v} hh => by
        by_cases z : q = k
        · subst z; rw [updI_s, updI_s]
        · rw [updI_n z, updI_n z]; exact hh z
      refine up (fun _ => up (fun _ => up (fun _ => up (fun _ => up (fun _ => ?_)))))
      exact (e1 _ q w).symm
  have cs' : atC c T N Z (a : Int) b = adE (asC (tsC (updI c 2 ((T : Int) + 1)) T (N : Int) b) N (a : Int) (T : Int)) Z := funext cs
  have hok3 : ∀ q, InR (atC c T N Z (a : Int) b q) := fun q => by
    obtain ⟨-, -, -, -, -, -, -, -, R2⟩ := id y2
    rw [cs']; exact R2.1 q
  have z6 : updI (zrF (updI m 3 (m 3 + 1)) (1608 + 72 * T) 72) 8 (m 8 + (len : Nat) + 1) 6 = m 6 := zo 6 (by omega) (by omega) (by omega)
  have mo : mOk (opensM (updI (zrF (updI m 3 (m 3 + 1)) (1608 + 72 * T) 72) 8 (m 8 + (len : Nat) + 1)) N a (T : Int)) := by
    refine ⟨?_, ?_⟩
    · unfold opensM
      rw [z6]
      exact updM_in (updM_in (updM_in (updM_in (updM_in (updM_in hok2.1 ⟨by omega, by omega⟩) (by decide)) ⟨by omega, by omega⟩) h6) h6) ⟨by omega, by omega⟩
    · rw [o0, oe 1 (by omega) (by omega) (by omega), oe 2 (by omega) (by omega) (by omega), oe 3 (by omega) (by omega) (by omega), oe 4 (by omega) (by omega) (by omega), oe 5 (by omega) (by omega) (by omega)]
      exact ⟨⟨by omega, by omega⟩, hok2.2.2.1, hok2.2.2.2.1, hok2.2.2.2.2.1, hok2.2.2.2.2.2.1, hok2.2.2.2.2.2.2.1, fun u hu => by
        have k1' := hok2.2.2.1
        rw [oe _ (by omega) (by omega) (by omega)]; exact hok2.2.2.2.2.2.2.2 u hu⟩
  have y3 : CR (newTaskM m a b len) pool S (atC c T N Z (a : Int) b) (updC C 2 (updI (C 2) Z (100 + (N : Int)))) nm (tsG g T (some s)) := by
    rw [cs']
    refine y2.see mo (Int.le_refl _) (fun q hq => ?_) (fun _ _ => rfl) (by obtain ⟨-, -, -, -, -, -, -, -, R2⟩ := id y2; exact R2.1) (fun _ _ => rfl)
    by_cases w : 1608 + 72 * T ≤ q ∧ q < 1680 + 72 * T
    · have hq2 : q = 1610 + 72 * T ∨ q = 1614 + 72 * T := by
        rcases hq with z | z | z | ⟨t, z | z⟩ <;> omega
      rw [oe q (by omega) (by omega) (by omega), zz q (by omega) w.1 w.2]
      exact v8 q (by omega)
    · exact same q (by omega)
  have m7 : newTaskM m a b len 7 = m 7 := by rw [same 7 (by omega), oe 7 (by omega) (by omega) (by omega), zo 7 (by omega) (by omega) (by omega)]
  have m3' : newTaskM m a b len 3 = m 3 + 1 := by rw [same 3 (by omega), oe 3 (by omega) (by omega) (by omega), z3]
  have cc : ∀ j, (488 ≤ j ∨ j = 3) → (j < 488 + 9 * T ∨ 497 + 9 * T ≤ j) → atC c T N Z (a : Int) b j = c j := fun j h1 h2 => by
    rw [cs]
    unfold adE asC
    rw [updI_n (by omega), updI_n (by omega), updI_n (by omega), updI_n (by omega), updI_n (by omega)]
    exact to j (by omega) h2
  have gg : ∀ j, 180 ≤ j → ¬ j = 180 + 2 * T → ¬ j = 181 + 2 * T → tsG g T (some s) j = g j := fun j _ h2 h3 => by unfold tsG; rw [updO_n h3, updO_n h2]
  refine ⟨y3, by rw [cc 3 (Or.inr rfl) (by omega), m7]; exact hK.1, fun q hq => ?_⟩
  rw [m3'] at hq
  by_cases w : q = T
  · subst w
    have e493 : atC c q N Z (a : Int) b = tsC (adE (asC (updI c 2 ((q : Int) + 1)) N (a : Int) (q : Int)) Z) q (N : Int) b := rfl
    obtain ⟨a1, a2, a3, a4, a5, a6, a7, a8, a9⟩ := tv (x := adE (asC (updI c 2 ((q : Int) + 1)) N (a : Int) (q : Int)) Z)
    rw [← e493] at a1 a2 a3 a4 a5 a6 a7 a8 a9
    have g0 : tsG g q (some s) (180 + 2 * q) = some s := by unfold tsG; rw [updO_n (by omega), updO_s]
    have g1 : tsG g q (some s) (181 + 2 * q) = some s := by unfold tsG; rw [updO_s]
    refine ⟨⟨?_, ?_, ?_, ?_, ?_, ?_, s, hi, n, P, P + len, ?_, ?_, g0, hL⟩, fun _ _ => ⟨v8 _ (by omega), 0, P, P + len, ?_, ?_, ?_, ?_, Or.inr ⟨by omega, s, hi, n, g1, hL⟩⟩⟩
    · rw [a1, v8 _ (by omega)]
    · rw [a3, v2]
    · rw [a4, v8 _ (by omega)]
    · rw [a5, v8 _ (by omega)]
    · rw [a6, v1]
    · rw [a8, v8 _ (by omega)]
    · rw [v4]; exact hP
    · rw [v5, hP]; omega
    · rw [v6]; rfl
    · rw [v5, hP]; omega
    · rw [v3]; exact hP
    · rw [a7, Nat.add_zero, v7]
  · obtain ⟨b1, b2⟩ := hK.2 q (by omega)
    have mm : ∀ j, 1608 + 72 * q ≤ j → j < 1680 + 72 * q → newTaskM m a b len j = m j := fun j h1 h2 => by
      rw [same j (by omega), oe j (by omega) (by omega) (by omega), zo j (by omega) (by omega) (by omega)]
    exact ⟨tkA_c b1 (fun j x y z _ _ => mm j (by omega) (by omega)) (fun j x y z _ => cc j (by omega) (by omega)) (gg _ (by omega) (by omega) (by omega)), fun z => tkC_c (b2 z) (fun j x y w => mm j (by omega) (by omega)) (hT.nn q (by omega)) (cc _ (by omega) (by omega)) (gg _ (by omega) (by omega) (by omega))⟩
end NT
end mg_c4
section mg_c5
/-! ===== a world that became another, beside that one's row ===== -/
section CW
variable {m pool c c' : Nat → Int} {S : Nat → Option mO} {C C' : Nat → Nat → Int} {nm nm' : Nat → Int64} {g g' : Nat → Option Nat}
/-- all that is looked at -/
theorem ctr_c (h : CTR m pool S c C nm g) (hok : mOk m) (hc : ∀ q : Nat, (q ≤ 4 ∨ (8 ≤ q ∧ q ≤ 13) ∨ (32 ≤ q ∧ (q : Int) < 32 + 3 * m 1) ∨ (304 ≤ q ∧ (q : Int) < 304 + 3 * m 0) ∨ (488 ≤ q ∧ (q : Int) < 488 + 9 * m 3)) → c' q = c q) (hr : (∀ q, InR (c' q)) ∧ ∀ k q, InR (C' k q)) (h0 : ∀ k : Nat, k < 8 → C' 0 k = C 0 k) (h1 : ∀ k : Nat, (k : Int) < c 9 → C' 1 k = C 1 k) (h2 : ∀ k : Nat, (k : Int) < c 10 → C' 2 k = C 2 k) (h35 : ∀ k : Nat, (k : Int) < c 11 → C' 3 k = C 3 k ∧ C' 4 k = C 4 k ∧ C' 5 k = C 5 k) (hn : ∀ t : Nat, (t : Int) < m 1 → nm' t = nm t) (hg : ∀ t : Nat, (t : Int) < m 1 → g' (2 * t) = g (2 * t)) (hgt : ∀ j : Nat, 180 ≤ j → (j : Int) < 180 + 2 * m 3 → g' j = g j) : CTR m pool S c' C' nm' g' := by
  obtain ⟨⟨n, T, A, K, L, ⟨Z, e⟩, ⟨F, f⟩, G, R⟩, h3, hK⟩ := h
  have k0 := hok.2.1
  have k1 := hok.2.2.1
  have k2 := hok.2.2.2.1
  have k3 := hok.2.2.2.2.1
  have ez := e.1
  have f11 := f.1.1
  have fb := f.2.1
  have s : ∀ q, q ≤ 4 ∨ (8 ≤ q ∧ q ≤ 13) → c' q = c q := fun q hq => hc q (by omega)
  have c4 : c' 4 = c 4 := s 4 (by omega)
  refine ⟨⟨?_, fun t ht => ?_, fun a ha => ?_, fun q hq => ?_, ?_, ⟨Z, ?_⟩, ⟨F, ?_⟩, fun t ht => ?_, hr⟩, by rw [s 3 (by omega)]; exact h3, fun q hq => ?_⟩
  · unfold crN
    rw [s 0 (by omega), s 1 (by omega), s 2 (by omega), s 8 (by omega), s 9 (by omega)]
    exact n
  · rw [hc _ (by omega), hc _ (by omega), hc _ (by omega), hn t ht]; exact T t ht
  · rw [hc _ (by omega), hc _ (by omega), hc _ (by omega)]; exact A a ha
  · rw [hc _ (by omega), hc _ (by omega)]; exact K q hq
  · exact ⟨fun k hk => by rw [h0 k hk]; exact L.1 k hk, fun k hk => by rw [h1 k (by rw [n.2.2.2.2]; exact hk)]; exact L.2 k hk⟩
  · obtain ⟨e1, e2, e3, e4, e5, e6⟩ := e
    refine ⟨by rw [s 10 (by omega)]; exact e1, e2, fun j hj => by rw [h2 j (by omega)]; exact e3 j hj, fun j k a b => by rw [h2 j (by omega), h2 k (by omega)]; exact e4 j k a b, fun x hx => ?_, e6⟩
    obtain ⟨j, j1, j2⟩ := e5 x hx
    exact ⟨j, j1, by rw [h2 j (by omega)]; exact j2⟩
  · obtain ⟨f1, f2, f3, f4, f5, f6, f7⟩ := f
    have fa : ∀ k, k ≤ F → cnt (faB (C' 5)) k = cnt (faB (C 5)) k := fun k hk => cnt_congr k (fun q hq => by unfold faB; rw [(h35 q (by omega)).2.2])
    have gb : ∀ k, k ≤ F → cnt (gbB (c 4).toNat (C' 5) (-1)) k = cnt (gbB (c 4).toNat (C 5) (-1)) k := fun k hk => cnt_congr k (fun q hq => by unfold gbB; rw [(h35 q (by omega)).2.2])
    unfold crF
    rw [s 11 (by omega), s 12 (by omega), s 13 (by omega), c4, fa F (Nat.le_refl _), gb F (Nat.le_refl _)]
    refine ⟨f1, f2, f3, f4, fun j a b => ?_, f6, fun j a b d => ?_⟩
    · obtain ⟨x1, x2, x3⟩ := h35 j (by omega)
      rw [x3] at b
      rw [fa j (by omega), x1, x2, x3]
      exact f5 j a b
    · obtain ⟨x1, x2, x3⟩ := h35 j (by omega)
      rw [x3] at d
      rw [gb j (by omega), x1, x2]
      exact f7 j a b d
  · rw [hg t ht]; exact G t ht
  · obtain ⟨⟨a1, a2, a3, a4, a5, a6, b, hi, n, P, E, e1, e2, e3, e4⟩, hC⟩ := hK q hq
    refine ⟨⟨by rw [hc _ (by omega)]; exact a1, by rw [hc _ (by omega)]; exact a2, by rw [hc _ (by omega)]; exact a3, by rw [hc _ (by omega)]; exact a4, by rw [hc _ (by omega)]; exact a5, by rw [hc _ (by omega)]; exact a6, b, hi, n, P, E, e1, e2, by rw [hgt _ (by omega) (by omega)]; exact e3, e4⟩, fun z z2 => ?_⟩
    obtain ⟨z0, o, p, E', r1, r2, r3, r4, r5⟩ := hC z z2
    exact ⟨z0, o, p, E', r1, r2, r3, by rw [hc _ (by omega)]; exact r4, by rw [hgt _ (by omega) (by omega)]; exact r5⟩
theorem wbC_at {c c2 : Nat → Int} {N s K q : Nat} (hq : q ≤ 4 ∨ (8 ≤ q ∧ q ≤ 13) ∨ (32 ≤ q ∧ q < 32 + 3 * N) ∨ (304 ≤ q ∧ q < 304 + 3 * s) ∨ (488 ≤ q ∧ q < 488 + 9 * K)) : wbC c c2 N s K q = c2 q := by
  have l : ∀ (x : Nat → Int) k, x q = c2 q ∨ q = k → updI x k (c2 k) q = c2 q := fun x k hx => by
    by_cases w : q = k
    · subst w; exact updI_s
    · rw [updI_n w]; exact hx.resolve_right w
  have mx : ∀ (x : Nat → Int) lo hi, x q = c2 q ∨ (lo ≤ q ∧ q < hi) → mixR x c2 lo hi q = c2 q := fun x lo hi hx => by
    unfold mixR
    by_cases w : lo ≤ q ∧ q < hi
    · rw [if_pos w]
    · rw [if_neg w]; exact hx.resolve_right w
  have od : ∀ {A B : Prop}, (¬ B → A) → A ∨ B := fun {A B} h => by
    by_cases w : B
    · exact Or.inr w
    · exact Or.inl (h w)
  unfold wbC fbC
  refine l _ _ (od (fun w4 => ?_))
  refine l _ _ (od (fun w13 => ?_))
  refine l _ _ (od (fun w12 => ?_))
  refine l _ _ (od (fun w11 => ?_))
  refine l _ _ (od (fun w10 => ?_))
  refine l _ _ (od (fun w9 => ?_))
  refine l _ _ (od (fun w8 => ?_))
  refine l _ _ (od (fun w3 => ?_))
  refine mx _ _ _ (od (fun wk => ?_))
  refine l _ _ (od (fun w2 => ?_))
  refine mx _ _ _ (od (fun ws => ?_))
  refine l _ _ (od (fun w1 => ?_))
  refine mx _ _ _ (od (fun wt => ?_))
  refine l _ _ (od (fun w0 => ?_))
  omega
theorem wbC_r {c c2 : Nat → Int} (h1 : ∀ q, InR (c q)) (h2 : ∀ q, InR (c2 q)) {N s K : Nat} : ∀ q, InR (wbC c c2 N s K q) := by
  have mx : ∀ (x : Nat → Int) lo hi, (∀ q, InR (x q)) → ∀ q, InR (mixR x c2 lo hi q) := fun x lo hi hx q => by
    unfold mixR; split
    · exact h2 _
    · exact hx q
  unfold wbC fbC
  exact updI_r (updI_r (updI_r (updI_r (updI_r (updI_r (updI_r (updI_r (mx _ _ _ (updI_r (mx _ _ _ (updI_r (mx _ _ _ (updI_r h1 (h2 _))) (h2 _))) (h2 _))) (h2 _)) (h2 _)) (h2 _)) (h2 _)) (h2 _)) (h2 _)) (h2 _)) (h2 _)
theorem wbD_at {C C2 : Nat → Nat → Int} {sz : Nat → Nat} {j q : Nat} (hj : j < 6) (hq : q < sz j) : wbD C C2 sz j q = C2 j q := by
  have hit : ∀ X : Nat → Nat → Int, ibD X C2 sz j j q = C2 j q := fun X => by
    unfold ibD cpyF
    rw [updC_s, if_pos hq]
  have mis : ∀ (X : Nat → Nat → Int) k, ¬ j = k → ibD X C2 sz k j q = X j q := fun X k h => by
    unfold ibD
    rw [updC_n h]
  unfold wbD
  have hj2 : j = 0 ∨ j = 1 ∨ j = 2 ∨ j = 3 ∨ j = 4 ∨ j = 5 := by omega
  rcases hj2 with rfl | rfl | rfl | rfl | rfl | rfl
  · rw [mis _ 5 (by decide), mis _ 4 (by decide), mis _ 3 (by decide), mis _ 2 (by decide), mis _ 1 (by decide)]; exact hit _
  · rw [mis _ 5 (by decide), mis _ 4 (by decide), mis _ 3 (by decide), mis _ 2 (by decide)]; exact hit _
  · rw [mis _ 5 (by decide), mis _ 4 (by decide), mis _ 3 (by decide)]; exact hit _
  · rw [mis _ 5 (by decide), mis _ 4 (by decide)]; exact hit _
  · rw [mis _ 5 (by decide)]; exact hit _
  · exact hit _
theorem wbD_r {C C2 : Nat → Nat → Int} (h1 : ∀ k q, InR (C k q)) (h2 : ∀ k q, InR (C2 k q)) {sz : Nat → Nat} : ∀ k q, InR (wbD C C2 sz k q) := by
  have st : ∀ (X : Nat → Nat → Int) j, (∀ k q, InR (X k q)) → ∀ k q, InR (ibD X C2 sz j k q) := fun X j hx => by
    unfold ibD
    refine updC_r hx (fun q => ?_)
    unfold cpyF; split
    · exact h2 _ _
    · exact hx _ _
  unfold wbD
  exact st _ _ (st _ _ (st _ _ (st _ _ (st _ _ (st _ _ h1)))))
end CW
end mg_c5
section mg_c6
/-! ===== a world becomes another: both sides ===== -/
theorem ctr_become {G : mG} {l : Launch} (d : Nat) {h : mH} {w w2 : Nat} {m pool c c2 : Nat → Int} {S : Nat → Option mO} {C C2 : Nat → Nat → Int} {nm nm2 : Nat → Int64} {g g2 : Nat → Option Nat} (hW : isW h w c C nm g) (hc : (∀ q, InR (c q)) ∧ ∀ k q, InR (C k q)) (hW2 : isW h w2 c2 C2 nm2 g2) (hdis : w + 177 ≤ w2 ∨ w2 + 177 ≤ w) (h2 : CTR m pool S c2 C2 nm2 g2) (hok : mOk m) (hT : TkM m pool 99) :
    RUNM G l (d + 2) mX9_become [.ref w, .ref w2] h (fun v h' => v = none ∧ (∃ c' C' nm' g', isW h' w c' C' nm' g' ∧ CTR m pool S c' C' nm' g') ∧ Same (wBlk w) h h') := by
  obtain ⟨⟨n, T, A, K, L, ⟨Z, e⟩, ⟨F, f⟩, Gg, R⟩, -⟩ := id h2
  have k0 := hok.2.1
  have k1 := hok.2.2.1
  have k2 := hok.2.2.2.1
  have k3 := hok.2.2.2.2.1
  have ez := e.2.1
  have fb := f.2.1
  have sz : szW c2 (fun j => (c2 (8 + j)).toNat) := fun j hj => by
    have hj2 : j = 0 ∨ j = 1 ∨ j = 2 ∨ j = 3 ∨ j = 4 ∨ j = 5 := by omega
    have i0 : iRm 0 = 8 := rfl
    have i1 : iRm 1 = 90 := rfl
    have i2 : iRm 2 = 150 := rfl
    have i3 : iRm 3 = 90 := rfl
    have i4 : iRm 4 = 90 := rfl
    have i5 : iRm 5 = 90 := rfl
    have e8 := n.2.2.2.1
    have e9 := n.2.2.2.2
    have e10 := e.1
    have e11 := f.1.1
    have e12 := f.1.2.1
    have e13 := f.1.2.2
    rcases hj2 with rfl | rfl | rfl | rfl | rfl | rfl
    · show c2 8 = (((c2 8).toNat : Nat) : Int) ∧ (c2 8).toNat ≤ iRm 0
      rw [i0]; omega
    · show c2 9 = (((c2 9).toNat : Nat) : Int) ∧ (c2 9).toNat ≤ iRm 1
      rw [i1]; omega
    · show c2 10 = (((c2 10).toNat : Nat) : Int) ∧ (c2 10).toNat ≤ iRm 2
      rw [i2]; omega
    · show c2 11 = (((c2 11).toNat : Nat) : Int) ∧ (c2 11).toNat ≤ iRm 3
      rw [i3]; omega
    · show c2 12 = (((c2 12).toNat : Nat) : Int) ∧ (c2 12).toNat ≤ iRm 4
      rw [i4]; omega
    · show c2 13 = (((c2 13).toNat : Nat) : Int) ∧ (c2 13).toNat ≤ iRm 5
      rw [i5]; omega
  have hb : ∀ q, q < (m 3).toNat → c2 (496 + 9 * q) = 0 ∨ c2 (496 + 9 * q) = 1 := fun q hq => by
    rw [(K q (by omega)).2]
    exact (hT.2 q (by omega)).1.2.2.1
  have y := cb_World (G := G) (l := l) d hW hc.1 hW2 hdis R.1 sz (N := (m 1).toNat) (S := (m 0).toNat) (K := (m 3).toNat) (by rw [n.1]; omega) (by omega) (by rw [n.2.1]; omega) (by omega) (by rw [n.2.2.1]; omega) (by omega) hb
  refine y.mono (fun v h' q => ?_)
  obtain ⟨q1, q2, q3⟩ := q
  refine ⟨q1, ⟨_, _, _, _, q2, ?_⟩, q3⟩
  refine ctr_c h2 hok (fun q hq => wbC_at (by omega)) ⟨wbC_r hc.1 R.1, wbD_r hc.2 R.2⟩ (fun k hk => wbD_at (by decide) ?_) (fun k hk => wbD_at (by decide) ?_) (fun k hk => wbD_at (by decide) ?_) (fun k hk => ⟨wbD_at (by decide) ?_, wbD_at (by decide) ?_, wbD_at (by decide) ?_⟩) (fun t ht => ?_) (fun t ht => ?_) (fun j h1 hj => ?_)
  · show k < (c2 8).toNat
    have := n.2.2.2.1; omega
  · show k < (c2 9).toNat
    omega
  · show k < (c2 10).toNat
    omega
  · show k < (c2 11).toNat
    omega
  · show k < (c2 12).toNat
    have a := f.1.1; have b := f.1.2.1; omega
  · show k < (c2 13).toNat
    have a := f.1.1; have b := f.1.2.2; omega
  · unfold mixL; rw [if_pos (by omega)]
  · unfold wbG mixO mixE
    rw [if_neg (by omega), if_pos ⟨by omega, by omega⟩]
  · unfold wbG mixO
    rw [if_pos ⟨h1, by omega⟩]
end mg_c6
section mg_d0
/-! ===== the class: calls that only ask, on any keeper ===== -/
set_option maxHeartbeats 4000000 in
set_option maxRecDepth 100000 in
theorem kg_youngest {G : mG} {l : Launch} (d : Nat) {h : mH} {x : Nat} {kp tk : Option Nat} {zr : Nat → Int} {fr : Nat → Nat → Int} {p e o zt : Int} {ft : Nat → Int} {zs : Int} {fs : Nat → Int} {b za : Int} {fa : Nat → Int} {c : Nat → Int} {C : Nat → Nat → Int} {nm : Nat → Int64} {g : Nat → Option Nat} (hK : isK h x kp tk zr fr p e o zt ft zs fs b za fa c C nm g) (hc : ∀ q, InR (c q)) (hC : ∀ k q, InR (C k q)) (hO : oOk c) {N : Nat} (hN : c 0 = (N : Int)) (hcap : N ≤ 90) {a : Int} (ha : InR a) : RUNM G l (d + 9) mX10_youngest [.ref x, .int (J a)] h (fun v h' => v = some (.int (J (if inW c 1 60 a then ywL c a N else -1))) ∧ h' = h) := by
  refine RUNM.of (by decide +kernel) (Nat.le_of_ble_eq_true rfl) ?_
  have hD := hK.d
  have hS := hK.s
  have hR := hK.r
  have hW := hK.w
  refine r_aload_n (pc := 0) dX10_youngest_0 rfl (by first | rfl | exact isRefV_rf _) ?_
  refine r_getf (pc := 1) dX10_youngest_1 fX10_51 (by first | assumption | exact isI.gx (by assumption) | exact isI.gc (by assumption) | exact isW.gx (by assumption) | exact isW.gF (by assumption) | exact isW.gT (by assumption) (by omega) | exact isW.gS (by assumption) (by omega) | exact isW.gK (by assumption) (by omega) | exact isW.g1 (by assumption) | exact isW.g2 (by assumption) | exact isW.g3 (by assumption) | exact isI.gx (isW.i0 (by assumption)) | exact isI.gc (isW.i0 (by assumption)) | exact isI.gx (isW.i1 (by assumption)) | exact isI.gc (isW.i1 (by assumption)) | exact isI.gx (isW.i2 (by assumption)) | exact isI.gc (isW.i2 (by assumption)) | exact isI.gx (isW.i3 (by assumption)) | exact isI.gc (isW.i3 (by assumption)) | exact isI.gx (isW.i4 (by assumption)) | exact isI.gc (isW.i4 (by assumption)) | exact isI.gx (isW.i5 (by assumption)) | exact isI.gc (isW.i5 (by assumption)) | exact isR.gx (by assumption) | exact isRd.gx (by assumption) | exact isSp.gx (by assumption) | exact isI.gx (isR.i (by assumption)) | exact isI.gx (isRd.i (by assumption)) | exact isI.gc (isRd.i (by assumption)) | exact isI.gx (isSp.i (by assumption)) | exact isW.gx (isR.w (by assumption)) | exact isW.gF (isR.w (by assumption)) | exact isK.gx (by assumption) | exact isK.gr (by assumption) | exact isI.gx (isK.row (by assumption) (by omega)) | exact isI.gc (isK.row (by assumption) (by omega)) | fail "no such object") (by rfl) ?_
  refine r_iload_n (pc := 4) dX10_youngest_4 rfl ?_
  refine r_callV1 (pc := 5) dX10_youngest_5 qX9_scopeAt kX10_95 vX9_scopeAt (by first | assumption | exact isI.gx (by assumption) | exact isI.gc (by assumption) | exact isW.gx (by assumption) | exact isW.gF (by assumption) | exact isW.gT (by assumption) (by omega) | exact isW.gS (by assumption) (by omega) | exact isW.gK (by assumption) (by omega) | exact isW.g1 (by assumption) | exact isW.g2 (by assumption) | exact isW.g3 (by assumption) | exact isI.gx (isW.i0 (by assumption)) | exact isI.gc (isW.i0 (by assumption)) | exact isI.gx (isW.i1 (by assumption)) | exact isI.gc (isW.i1 (by assumption)) | exact isI.gx (isW.i2 (by assumption)) | exact isI.gc (isW.i2 (by assumption)) | exact isI.gx (isW.i3 (by assumption)) | exact isI.gc (isW.i3 (by assumption)) | exact isI.gx (isW.i4 (by assumption)) | exact isI.gc (isW.i4 (by assumption)) | exact isI.gx (isW.i5 (by assumption)) | exact isI.gc (isW.i5 (by assumption)) | exact isR.gx (by assumption) | exact isRd.gx (by assumption) | exact isSp.gx (by assumption) | exact isI.gx (isR.i (by assumption)) | exact isI.gx (isRd.i (by assumption)) | exact isI.gc (isRd.i (by assumption)) | exact isI.gx (isSp.i (by assumption)) | exact isW.gx (isR.w (by assumption)) | exact isW.gF (isR.w (by assumption)) | exact isK.gx (by assumption) | exact isK.gr (by assumption) | exact isI.gx (isK.row (by assumption) (by omega)) | exact isI.gc (isK.row (by assumption) (by omega)) | fail "no such object") rfl rfl (Nat.le_of_ble_eq_true rfl) (cw_scopeAt _ hW hc ha) (fun v_5 h_5 q_5 => ?_)
  obtain ⟨q1_5, rfl⟩ := q_5
  by_cases e_5 : inW c 1 60 a
  · obtain rfl := scAt_P e_5 q1_5
    refine r_ifnonnull (pc := 8) (tgt := 15) dX10_youngest_8 (by decide) (by first | rfl | exact isRefV_rf _) (fun a_8 c_8 => ?_) (fun c_8 => by cases c_8)
    refine r_aload_n (pc := 15) dX10_youngest_15 rfl (by first | rfl | exact isRefV_rf _) ?_
    refine r_getf (pc := 16) dX10_youngest_16 fX10_51 (by first | assumption | exact isI.gx (by assumption) | exact isI.gc (by assumption) | exact isW.gx (by assumption) | exact isW.gF (by assumption) | exact isW.gT (by assumption) (by omega) | exact isW.gS (by assumption) (by omega) | exact isW.gK (by assumption) (by omega) | exact isW.g1 (by assumption) | exact isW.g2 (by assumption) | exact isW.g3 (by assumption) | exact isI.gx (isW.i0 (by assumption)) | exact isI.gc (isW.i0 (by assumption)) | exact isI.gx (isW.i1 (by assumption)) | exact isI.gc (isW.i1 (by assumption)) | exact isI.gx (isW.i2 (by assumption)) | exact isI.gc (isW.i2 (by assumption)) | exact isI.gx (isW.i3 (by assumption)) | exact isI.gc (isW.i3 (by assumption)) | exact isI.gx (isW.i4 (by assumption)) | exact isI.gc (isW.i4 (by assumption)) | exact isI.gx (isW.i5 (by assumption)) | exact isI.gc (isW.i5 (by assumption)) | exact isR.gx (by assumption) | exact isRd.gx (by assumption) | exact isSp.gx (by assumption) | exact isI.gx (isR.i (by assumption)) | exact isI.gx (isRd.i (by assumption)) | exact isI.gc (isRd.i (by assumption)) | exact isI.gx (isSp.i (by assumption)) | exact isW.gx (isR.w (by assumption)) | exact isW.gF (isR.w (by assumption)) | exact isK.gx (by assumption) | exact isK.gr (by assumption) | exact isI.gx (isK.row (by assumption) (by omega)) | exact isI.gc (isK.row (by assumption) (by omega)) | fail "no such object") (by rfl) ?_
    refine r_iload_n (pc := 19) dX10_youngest_19 rfl ?_
    refine r_callV1 (pc := 20) dX10_youngest_20 qX9_youngestWithin kX10_171 vX9_youngestWithin (by first | assumption | exact isI.gx (by assumption) | exact isI.gc (by assumption) | exact isW.gx (by assumption) | exact isW.gF (by assumption) | exact isW.gT (by assumption) (by omega) | exact isW.gS (by assumption) (by omega) | exact isW.gK (by assumption) (by omega) | exact isW.g1 (by assumption) | exact isW.g2 (by assumption) | exact isW.g3 (by assumption) | exact isI.gx (isW.i0 (by assumption)) | exact isI.gc (isW.i0 (by assumption)) | exact isI.gx (isW.i1 (by assumption)) | exact isI.gc (isW.i1 (by assumption)) | exact isI.gx (isW.i2 (by assumption)) | exact isI.gc (isW.i2 (by assumption)) | exact isI.gx (isW.i3 (by assumption)) | exact isI.gc (isW.i3 (by assumption)) | exact isI.gx (isW.i4 (by assumption)) | exact isI.gc (isW.i4 (by assumption)) | exact isI.gx (isW.i5 (by assumption)) | exact isI.gc (isW.i5 (by assumption)) | exact isR.gx (by assumption) | exact isRd.gx (by assumption) | exact isSp.gx (by assumption) | exact isI.gx (isR.i (by assumption)) | exact isI.gx (isRd.i (by assumption)) | exact isI.gc (isRd.i (by assumption)) | exact isI.gx (isSp.i (by assumption)) | exact isW.gx (isR.w (by assumption)) | exact isW.gF (isR.w (by assumption)) | exact isK.gx (by assumption) | exact isK.gr (by assumption) | exact isI.gx (isK.row (by assumption) (by omega)) | exact isI.gc (isK.row (by assumption) (by omega)) | fail "no such object") rfl rfl (Nat.le_of_ble_eq_true rfl) (cq_youngestWithin _ hW hc hO hN hcap (i := a) ha) (fun v_20 h_20 q_20 => ?_)
    obtain ⟨rfl, rfl⟩ := q_20
    refine r_ireturn (pc := 23) .int dX10_youngest_23 rfl (by first | rfl | assumption) ?_
    first | exact ⟨by rw [if_pos (by assumption)], rfl⟩ | exact ⟨by rw [if_neg (by assumption)], rfl⟩
  · obtain rfl := scAt_N e_5 q1_5
    refine r_ifnonnull (pc := 8) (tgt := 15) dX10_youngest_8 (by decide) (by first | rfl | exact isRefV_rf _) (fun a_8 c_8 => by cases c_8) (fun c_8 => ?_)
    refine rj_iconst (pc := 11) dX10_youngest_11 ?_
    refine r_goto (pc := 12) (tgt := 23) dX10_youngest_12 (by decide) ?_
    refine r_ireturn (pc := 23) .int dX10_youngest_23 rfl (by first | rfl | assumption) ?_
    first | exact ⟨by rw [if_pos (by assumption)], rfl⟩ | exact ⟨by rw [if_neg (by assumption)], rfl⟩
set_option maxHeartbeats 4000000 in
set_option maxRecDepth 100000 in
theorem kg_entry {G : mG} {l : Launch} (d : Nat) {h : mH} {x : Nat} {kp tk : Option Nat} {zr : Nat → Int} {fr : Nat → Nat → Int} {p e o zt : Int} {ft : Nat → Int} {zs : Int} {fs : Nat → Int} {b za : Int} {fa : Nat → Int} {c : Nat → Int} {C : Nat → Nat → Int} {nm : Nat → Int64} {g : Nat → Option Nat} (hK : isK h x kp tk zr fr p e o zt ft zs fs b za fa c C nm g) (hc : ∀ q, InR (c q)) (hC : ∀ k q, InR (C k q)) {Z : Nat} (hZ : c 10 = (Z : Int)) (hcapZ : Z ≤ 150) {a : Int} (ha : InR a) {i : Int} (hi : InR i) : RUNM G l (d + 9) mX10_entry [.ref x, .int (J a), .int (J i)] h (fun v h' => v = some (.int (J (if inW c 1 60 a then eyL c (C 2) a i Z 0 else -1))) ∧ h' = h) := by
  refine RUNM.of (by decide +kernel) (Nat.le_of_ble_eq_true rfl) ?_
  have hD := hK.d
  have hS := hK.s
  have hR := hK.r
  have hW := hK.w
  refine r_aload_n (pc := 0) dX10_entry_0 rfl (by first | rfl | exact isRefV_rf _) ?_
  refine r_getf (pc := 1) dX10_entry_1 fX10_51 (by first | assumption | exact isI.gx (by assumption) | exact isI.gc (by assumption) | exact isW.gx (by assumption) | exact isW.gF (by assumption) | exact isW.gT (by assumption) (by omega) | exact isW.gS (by assumption) (by omega) | exact isW.gK (by assumption) (by omega) | exact isW.g1 (by assumption) | exact isW.g2 (by assumption) | exact isW.g3 (by assumption) | exact isI.gx (isW.i0 (by assumption)) | exact isI.gc (isW.i0 (by assumption)) | exact isI.gx (isW.i1 (by assumption)) | exact isI.gc (isW.i1 (by assumption)) | exact isI.gx (isW.i2 (by assumption)) | exact isI.gc (isW.i2 (by assumption)) | exact isI.gx (isW.i3 (by assumption)) | exact isI.gc (isW.i3 (by assumption)) | exact isI.gx (isW.i4 (by assumption)) | exact isI.gc (isW.i4 (by assumption)) | exact isI.gx (isW.i5 (by assumption)) | exact isI.gc (isW.i5 (by assumption)) | exact isR.gx (by assumption) | exact isRd.gx (by assumption) | exact isSp.gx (by assumption) | exact isI.gx (isR.i (by assumption)) | exact isI.gx (isRd.i (by assumption)) | exact isI.gc (isRd.i (by assumption)) | exact isI.gx (isSp.i (by assumption)) | exact isW.gx (isR.w (by assumption)) | exact isW.gF (isR.w (by assumption)) | exact isK.gx (by assumption) | exact isK.gr (by assumption) | exact isI.gx (isK.row (by assumption) (by omega)) | exact isI.gc (isK.row (by assumption) (by omega)) | fail "no such object") (by rfl) ?_
  refine r_iload_n (pc := 4) dX10_entry_4 rfl ?_
  refine r_callV1 (pc := 5) dX10_entry_5 qX9_scopeAt kX10_95 vX9_scopeAt (by first | assumption | exact isI.gx (by assumption) | exact isI.gc (by assumption) | exact isW.gx (by assumption) | exact isW.gF (by assumption) | exact isW.gT (by assumption) (by omega) | exact isW.gS (by assumption) (by omega) | exact isW.gK (by assumption) (by omega) | exact isW.g1 (by assumption) | exact isW.g2 (by assumption) | exact isW.g3 (by assumption) | exact isI.gx (isW.i0 (by assumption)) | exact isI.gc (isW.i0 (by assumption)) | exact isI.gx (isW.i1 (by assumption)) | exact isI.gc (isW.i1 (by assumption)) | exact isI.gx (isW.i2 (by assumption)) | exact isI.gc (isW.i2 (by assumption)) | exact isI.gx (isW.i3 (by assumption)) | exact isI.gc (isW.i3 (by assumption)) | exact isI.gx (isW.i4 (by assumption)) | exact isI.gc (isW.i4 (by assumption)) | exact isI.gx (isW.i5 (by assumption)) | exact isI.gc (isW.i5 (by assumption)) | exact isR.gx (by assumption) | exact isRd.gx (by assumption) | exact isSp.gx (by assumption) | exact isI.gx (isR.i (by assumption)) | exact isI.gx (isRd.i (by assumption)) | exact isI.gc (isRd.i (by assumption)) | exact isI.gx (isSp.i (by assumption)) | exact isW.gx (isR.w (by assumption)) | exact isW.gF (isR.w (by assumption)) | exact isK.gx (by assumption) | exact isK.gr (by assumption) | exact isI.gx (isK.row (by assumption) (by omega)) | exact isI.gc (isK.row (by assumption) (by omega)) | fail "no such object") rfl rfl (Nat.le_of_ble_eq_true rfl) (cw_scopeAt _ hW hc ha) (fun v_5 h_5 q_5 => ?_)
  obtain ⟨q1_5, rfl⟩ := q_5
  by_cases e_5 : inW c 1 60 a
  · obtain rfl := scAt_P e_5 q1_5
    refine r_ifnonnull (pc := 8) (tgt := 15) dX10_entry_8 (by decide) (by first | rfl | exact isRefV_rf _) (fun a_8 c_8 => ?_) (fun c_8 => by cases c_8)
    refine r_aload_n (pc := 15) dX10_entry_15 rfl (by first | rfl | exact isRefV_rf _) ?_
    refine r_getf (pc := 16) dX10_entry_16 fX10_51 (by first | assumption | exact isI.gx (by assumption) | exact isI.gc (by assumption) | exact isW.gx (by assumption) | exact isW.gF (by assumption) | exact isW.gT (by assumption) (by omega) | exact isW.gS (by assumption) (by omega) | exact isW.gK (by assumption) (by omega) | exact isW.g1 (by assumption) | exact isW.g2 (by assumption) | exact isW.g3 (by assumption) | exact isI.gx (isW.i0 (by assumption)) | exact isI.gc (isW.i0 (by assumption)) | exact isI.gx (isW.i1 (by assumption)) | exact isI.gc (isW.i1 (by assumption)) | exact isI.gx (isW.i2 (by assumption)) | exact isI.gc (isW.i2 (by assumption)) | exact isI.gx (isW.i3 (by assumption)) | exact isI.gc (isW.i3 (by assumption)) | exact isI.gx (isW.i4 (by assumption)) | exact isI.gc (isW.i4 (by assumption)) | exact isI.gx (isW.i5 (by assumption)) | exact isI.gc (isW.i5 (by assumption)) | exact isR.gx (by assumption) | exact isRd.gx (by assumption) | exact isSp.gx (by assumption) | exact isI.gx (isR.i (by assumption)) | exact isI.gx (isRd.i (by assumption)) | exact isI.gc (isRd.i (by assumption)) | exact isI.gx (isSp.i (by assumption)) | exact isW.gx (isR.w (by assumption)) | exact isW.gF (isR.w (by assumption)) | exact isK.gx (by assumption) | exact isK.gr (by assumption) | exact isI.gx (isK.row (by assumption) (by omega)) | exact isI.gc (isK.row (by assumption) (by omega)) | fail "no such object") (by rfl) ?_
    refine r_iload_n (pc := 19) dX10_entry_19 rfl ?_
    refine r_iload_n (pc := 20) dX10_entry_20 rfl ?_
    refine r_callV2 (pc := 21) dX10_entry_21 qX9_entryAt kX10_174 vX9_entryAt (by first | assumption | exact isI.gx (by assumption) | exact isI.gc (by assumption) | exact isW.gx (by assumption) | exact isW.gF (by assumption) | exact isW.gT (by assumption) (by omega) | exact isW.gS (by assumption) (by omega) | exact isW.gK (by assumption) (by omega) | exact isW.g1 (by assumption) | exact isW.g2 (by assumption) | exact isW.g3 (by assumption) | exact isI.gx (isW.i0 (by assumption)) | exact isI.gc (isW.i0 (by assumption)) | exact isI.gx (isW.i1 (by assumption)) | exact isI.gc (isW.i1 (by assumption)) | exact isI.gx (isW.i2 (by assumption)) | exact isI.gc (isW.i2 (by assumption)) | exact isI.gx (isW.i3 (by assumption)) | exact isI.gc (isW.i3 (by assumption)) | exact isI.gx (isW.i4 (by assumption)) | exact isI.gc (isW.i4 (by assumption)) | exact isI.gx (isW.i5 (by assumption)) | exact isI.gc (isW.i5 (by assumption)) | exact isR.gx (by assumption) | exact isRd.gx (by assumption) | exact isSp.gx (by assumption) | exact isI.gx (isR.i (by assumption)) | exact isI.gx (isRd.i (by assumption)) | exact isI.gc (isRd.i (by assumption)) | exact isI.gx (isSp.i (by assumption)) | exact isW.gx (isR.w (by assumption)) | exact isW.gF (isR.w (by assumption)) | exact isK.gx (by assumption) | exact isK.gr (by assumption) | exact isI.gx (isK.row (by assumption) (by omega)) | exact isI.gc (isK.row (by assumption) (by omega)) | fail "no such object") rfl rfl (Nat.le_of_ble_eq_true rfl) (cq_entryAt _ hW hc hZ hcapZ (hC 2) (i := a) ha (k := i) hi) (fun v_21 h_21 q_21 => ?_)
    obtain ⟨rfl, rfl⟩ := q_21
    refine r_ireturn (pc := 24) .int dX10_entry_24 rfl (by first | rfl | assumption) ?_
    first | exact ⟨by rw [if_pos (by assumption)], rfl⟩ | exact ⟨by rw [if_neg (by assumption)], rfl⟩
  · obtain rfl := scAt_N e_5 q1_5
    refine r_ifnonnull (pc := 8) (tgt := 15) dX10_entry_8 (by decide) (by first | rfl | exact isRefV_rf _) (fun a_8 c_8 => by cases c_8) (fun c_8 => ?_)
    refine rj_iconst (pc := 11) dX10_entry_11 ?_
    refine r_goto (pc := 12) (tgt := 24) dX10_entry_12 (by decide) ?_
    refine r_ireturn (pc := 24) .int dX10_entry_24 rfl (by first | rfl | assumption) ?_
    first | exact ⟨by rw [if_pos (by assumption)], rfl⟩ | exact ⟨by rw [if_neg (by assumption)], rfl⟩
set_option maxHeartbeats 4000000 in
set_option maxRecDepth 100000 in
theorem kg_byName {G : mG} {l : Launch} (d : Nat) {h : mH} {x : Nat} {kp tk : Option Nat} {zr : Nat → Int} {fr : Nat → Nat → Int} {p e o zt : Int} {ft : Nat → Int} {zs : Int} {fs : Nat → Int} {b za : Int} {fa : Nat → Int} {c : Nat → Int} {C : Nat → Nat → Int} {nm : Nat → Int64} {g : Nat → Option Nat} (hK : isK h x kp tk zr fr p e o zt ft zs fs b za fa c C nm g) (hc : ∀ q, InR (c q)) (hC : ∀ k q, InR (C k q)) {N : Nat} (hN : c 0 = (N : Int)) (hcap : N ≤ 90) {a : Int} (ha : InR a) : RUNM G l (d + 9) mX10_byName [.ref x, .int (J a)] h (fun v h' => v = some (.int (J (hpL c nm N a N 0))) ∧ h' = h) := by
  refine RUNM.of (by decide +kernel) (Nat.le_of_ble_eq_true rfl) ?_
  have hD := hK.d
  have hS := hK.s
  have hR := hK.r
  have hW := hK.w
  refine r_aload_n (pc := 0) dX10_byName_0 rfl (by first | rfl | exact isRefV_rf _) ?_
  refine r_getf (pc := 1) dX10_byName_1 fX10_51 (by first | assumption | exact isI.gx (by assumption) | exact isI.gc (by assumption) | exact isW.gx (by assumption) | exact isW.gF (by assumption) | exact isW.gT (by assumption) (by omega) | exact isW.gS (by assumption) (by omega) | exact isW.gK (by assumption) (by omega) | exact isW.g1 (by assumption) | exact isW.g2 (by assumption) | exact isW.g3 (by assumption) | exact isI.gx (isW.i0 (by assumption)) | exact isI.gc (isW.i0 (by assumption)) | exact isI.gx (isW.i1 (by assumption)) | exact isI.gc (isW.i1 (by assumption)) | exact isI.gx (isW.i2 (by assumption)) | exact isI.gc (isW.i2 (by assumption)) | exact isI.gx (isW.i3 (by assumption)) | exact isI.gc (isW.i3 (by assumption)) | exact isI.gx (isW.i4 (by assumption)) | exact isI.gc (isW.i4 (by assumption)) | exact isI.gx (isW.i5 (by assumption)) | exact isI.gc (isW.i5 (by assumption)) | exact isR.gx (by assumption) | exact isRd.gx (by assumption) | exact isSp.gx (by assumption) | exact isI.gx (isR.i (by assumption)) | exact isI.gx (isRd.i (by assumption)) | exact isI.gc (isRd.i (by assumption)) | exact isI.gx (isSp.i (by assumption)) | exact isW.gx (isR.w (by assumption)) | exact isW.gF (isR.w (by assumption)) | exact isK.gx (by assumption) | exact isK.gr (by assumption) | exact isI.gx (isK.row (by assumption) (by omega)) | exact isI.gc (isK.row (by assumption) (by omega)) | fail "no such object") (by rfl) ?_
  refine r_iload_n (pc := 4) dX10_byName_4 rfl ?_
  refine r_callV1 (pc := 5) dX10_byName_5 qX9_heldAtPlace kX10_202 vX9_heldAtPlace (by first | assumption | exact isI.gx (by assumption) | exact isI.gc (by assumption) | exact isW.gx (by assumption) | exact isW.gF (by assumption) | exact isW.gT (by assumption) (by omega) | exact isW.gS (by assumption) (by omega) | exact isW.gK (by assumption) (by omega) | exact isW.g1 (by assumption) | exact isW.g2 (by assumption) | exact isW.g3 (by assumption) | exact isI.gx (isW.i0 (by assumption)) | exact isI.gc (isW.i0 (by assumption)) | exact isI.gx (isW.i1 (by assumption)) | exact isI.gc (isW.i1 (by assumption)) | exact isI.gx (isW.i2 (by assumption)) | exact isI.gc (isW.i2 (by assumption)) | exact isI.gx (isW.i3 (by assumption)) | exact isI.gc (isW.i3 (by assumption)) | exact isI.gx (isW.i4 (by assumption)) | exact isI.gc (isW.i4 (by assumption)) | exact isI.gx (isW.i5 (by assumption)) | exact isI.gc (isW.i5 (by assumption)) | exact isR.gx (by assumption) | exact isRd.gx (by assumption) | exact isSp.gx (by assumption) | exact isI.gx (isR.i (by assumption)) | exact isI.gx (isRd.i (by assumption)) | exact isI.gc (isRd.i (by assumption)) | exact isI.gx (isSp.i (by assumption)) | exact isW.gx (isR.w (by assumption)) | exact isW.gF (isR.w (by assumption)) | exact isK.gx (by assumption) | exact isK.gr (by assumption) | exact isI.gx (isK.row (by assumption) (by omega)) | exact isI.gc (isK.row (by assumption) (by omega)) | fail "no such object") rfl rfl (Nat.le_of_ble_eq_true rfl) (cq_heldAtPlace _ hW hc hN hcap ha) (fun v_5 h_5 q_5 => ?_)
  obtain ⟨rfl, rfl⟩ := q_5
  refine r_ireturn (pc := 8) .int dX10_byName_8 rfl (by first | rfl | assumption) ?_
  exact ⟨rfl, rfl⟩
set_option maxHeartbeats 4000000 in
set_option maxRecDepth 100000 in
theorem kg_ready {G : mG} {l : Launch} (d : Nat) {h : mH} {x : Nat} {kp tk : Option Nat} {zr : Nat → Int} {fr : Nat → Nat → Int} {p e o zt : Int} {ft : Nat → Int} {zs : Int} {fs : Nat → Int} {b za : Int} {fa : Nat → Int} {c : Nat → Int} {C : Nat → Nat → Int} {nm : Nat → Int64} {g : Nat → Option Nat} (hK : isK h x kp tk zr fr p e o zt ft zs fs b za fa c C nm g) (hc : ∀ q, InR (c q)) (hC : ∀ k q, InR (C k q)) {K : Nat} (hKk : c 2 = (K : Int)) (hcapK : K ≤ 10) {a : Int} (ha : InR a) : RUNM G l (d + 9) mX10_ready [.ref x, .int (J a)] h (fun v h' => v = some (.int (J (if a < 0 then -1 else rpL c K a K 0))) ∧ h' = h) := by
  refine RUNM.of (by decide +kernel) (Nat.le_of_ble_eq_true rfl) ?_
  have hD := hK.d
  have hS := hK.s
  have hR := hK.r
  have hW := hK.w
  refine r_iload_n (pc := 0) dX10_ready_0 rfl ?_
  refine rj_if_ge (pc := 1) (tgt := 8) dX10_ready_1 (by decide) (by first | exact b01_r | exact bz_r | omega | (constructor <;> omega) | apply_assumption | (apply atF_r; assumption) | fail "no range") (fun c_1 => ?_) (fun c_1 => ?_)
  · refine r_aload_n (pc := 8) dX10_ready_8 rfl (by first | rfl | exact isRefV_rf _) ?_
    refine r_getf (pc := 9) dX10_ready_9 fX10_51 (by first | assumption | exact isI.gx (by assumption) | exact isI.gc (by assumption) | exact isW.gx (by assumption) | exact isW.gF (by assumption) | exact isW.gT (by assumption) (by omega) | exact isW.gS (by assumption) (by omega) | exact isW.gK (by assumption) (by omega) | exact isW.g1 (by assumption) | exact isW.g2 (by assumption) | exact isW.g3 (by assumption) | exact isI.gx (isW.i0 (by assumption)) | exact isI.gc (isW.i0 (by assumption)) | exact isI.gx (isW.i1 (by assumption)) | exact isI.gc (isW.i1 (by assumption)) | exact isI.gx (isW.i2 (by assumption)) | exact isI.gc (isW.i2 (by assumption)) | exact isI.gx (isW.i3 (by assumption)) | exact isI.gc (isW.i3 (by assumption)) | exact isI.gx (isW.i4 (by assumption)) | exact isI.gc (isW.i4 (by assumption)) | exact isI.gx (isW.i5 (by assumption)) | exact isI.gc (isW.i5 (by assumption)) | exact isR.gx (by assumption) | exact isRd.gx (by assumption) | exact isSp.gx (by assumption) | exact isI.gx (isR.i (by assumption)) | exact isI.gx (isRd.i (by assumption)) | exact isI.gc (isRd.i (by assumption)) | exact isI.gx (isSp.i (by assumption)) | exact isW.gx (isR.w (by assumption)) | exact isW.gF (isR.w (by assumption)) | exact isK.gx (by assumption) | exact isK.gr (by assumption) | exact isI.gx (isK.row (by assumption) (by omega)) | exact isI.gc (isK.row (by assumption) (by omega)) | fail "no such object") (by rfl) ?_
    refine r_iload_n (pc := 12) dX10_ready_12 rfl ?_
    refine r_callV1 (pc := 13) dX10_ready_13 qX9_readyAtPlace kX10_270 vX9_readyAtPlace (by first | assumption | exact isI.gx (by assumption) | exact isI.gc (by assumption) | exact isW.gx (by assumption) | exact isW.gF (by assumption) | exact isW.gT (by assumption) (by omega) | exact isW.gS (by assumption) (by omega) | exact isW.gK (by assumption) (by omega) | exact isW.g1 (by assumption) | exact isW.g2 (by assumption) | exact isW.g3 (by assumption) | exact isI.gx (isW.i0 (by assumption)) | exact isI.gc (isW.i0 (by assumption)) | exact isI.gx (isW.i1 (by assumption)) | exact isI.gc (isW.i1 (by assumption)) | exact isI.gx (isW.i2 (by assumption)) | exact isI.gc (isW.i2 (by assumption)) | exact isI.gx (isW.i3 (by assumption)) | exact isI.gc (isW.i3 (by assumption)) | exact isI.gx (isW.i4 (by assumption)) | exact isI.gc (isW.i4 (by assumption)) | exact isI.gx (isW.i5 (by assumption)) | exact isI.gc (isW.i5 (by assumption)) | exact isR.gx (by assumption) | exact isRd.gx (by assumption) | exact isSp.gx (by assumption) | exact isI.gx (isR.i (by assumption)) | exact isI.gx (isRd.i (by assumption)) | exact isI.gc (isRd.i (by assumption)) | exact isI.gx (isSp.i (by assumption)) | exact isW.gx (isR.w (by assumption)) | exact isW.gF (isR.w (by assumption)) | exact isK.gx (by assumption) | exact isK.gr (by assumption) | exact isI.gx (isK.row (by assumption) (by omega)) | exact isI.gc (isK.row (by assumption) (by omega)) | fail "no such object") rfl rfl (Nat.le_of_ble_eq_true rfl) (cq_readyAtPlace _ hW hc hKk hcapK ha) (fun v_13 h_13 q_13 => ?_)
    obtain ⟨rfl, rfl⟩ := q_13
    refine r_ireturn (pc := 16) .int dX10_ready_16 rfl (by first | rfl | assumption) ?_
    first | exact ⟨by rw [if_pos (by omega)], rfl⟩ | exact ⟨by rw [if_neg (by omega)], rfl⟩
  · refine rj_iconst (pc := 4) dX10_ready_4 ?_
    refine r_goto (pc := 5) (tgt := 16) dX10_ready_5 (by decide) ?_
    refine r_ireturn (pc := 16) .int dX10_ready_16 rfl (by first | rfl | assumption) ?_
    first | exact ⟨by rw [if_pos (by omega)], rfl⟩ | exact ⟨by rw [if_neg (by omega)], rfl⟩
set_option maxHeartbeats 4000000 in
set_option maxRecDepth 100000 in
theorem kg_plan {G : mG} {l : Launch} (d : Nat) {h : mH} {x : Nat} {kp tk : Option Nat} {zr : Nat → Int} {fr : Nat → Nat → Int} {p e o zt : Int} {ft : Nat → Int} {zs : Int} {fs : Nat → Int} {b za : Int} {fa : Nat → Int} {c : Nat → Int} {C : Nat → Nat → Int} {nm : Nat → Int64} {g : Nat → Option Nat} (hK : isK h x kp tk zr fr p e o zt ft zs fs b za fa c C nm g) (hc : ∀ q, InR (c q)) (hC : ∀ k q, InR (C k q)) (hO : oOk c) {Z : Nat} (hZ : c 10 = (Z : Int)) (hcapZ : Z ≤ 150) {a : Int} (ha : InR a) {i : Int} (hi : InR i) : RUNM G l (d + 9) mX10_plan [.ref x, .int (J a), .int (J i)] h (fun v h' => v = some (.int (J (if inW c 1 60 a then pcL c (C 2) Z a i 1000000 a ((Z : Int) - 1) 0 else -1))) ∧ h' = h) := by
  refine RUNM.of (by decide +kernel) (Nat.le_of_ble_eq_true rfl) ?_
  have hD := hK.d
  have hS := hK.s
  have hR := hK.r
  have hW := hK.w
  refine r_aload_n (pc := 0) dX10_plan_0 rfl (by first | rfl | exact isRefV_rf _) ?_
  refine r_getf (pc := 1) dX10_plan_1 fX10_51 (by first | assumption | exact isI.gx (by assumption) | exact isI.gc (by assumption) | exact isW.gx (by assumption) | exact isW.gF (by assumption) | exact isW.gT (by assumption) (by omega) | exact isW.gS (by assumption) (by omega) | exact isW.gK (by assumption) (by omega) | exact isW.g1 (by assumption) | exact isW.g2 (by assumption) | exact isW.g3 (by assumption) | exact isI.gx (isW.i0 (by assumption)) | exact isI.gc (isW.i0 (by assumption)) | exact isI.gx (isW.i1 (by assumption)) | exact isI.gc (isW.i1 (by assumption)) | exact isI.gx (isW.i2 (by assumption)) | exact isI.gc (isW.i2 (by assumption)) | exact isI.gx (isW.i3 (by assumption)) | exact isI.gc (isW.i3 (by assumption)) | exact isI.gx (isW.i4 (by assumption)) | exact isI.gc (isW.i4 (by assumption)) | exact isI.gx (isW.i5 (by assumption)) | exact isI.gc (isW.i5 (by assumption)) | exact isR.gx (by assumption) | exact isRd.gx (by assumption) | exact isSp.gx (by assumption) | exact isI.gx (isR.i (by assumption)) | exact isI.gx (isRd.i (by assumption)) | exact isI.gc (isRd.i (by assumption)) | exact isI.gx (isSp.i (by assumption)) | exact isW.gx (isR.w (by assumption)) | exact isW.gF (isR.w (by assumption)) | exact isK.gx (by assumption) | exact isK.gr (by assumption) | exact isI.gx (isK.row (by assumption) (by omega)) | exact isI.gc (isK.row (by assumption) (by omega)) | fail "no such object") (by rfl) ?_
  refine r_iload_n (pc := 4) dX10_plan_4 rfl ?_
  refine r_callV1 (pc := 5) dX10_plan_5 qX9_scopeAt kX10_95 vX9_scopeAt (by first | assumption | exact isI.gx (by assumption) | exact isI.gc (by assumption) | exact isW.gx (by assumption) | exact isW.gF (by assumption) | exact isW.gT (by assumption) (by omega) | exact isW.gS (by assumption) (by omega) | exact isW.gK (by assumption) (by omega) | exact isW.g1 (by assumption) | exact isW.g2 (by assumption) | exact isW.g3 (by assumption) | exact isI.gx (isW.i0 (by assumption)) | exact isI.gc (isW.i0 (by assumption)) | exact isI.gx (isW.i1 (by assumption)) | exact isI.gc (isW.i1 (by assumption)) | exact isI.gx (isW.i2 (by assumption)) | exact isI.gc (isW.i2 (by assumption)) | exact isI.gx (isW.i3 (by assumption)) | exact isI.gc (isW.i3 (by assumption)) | exact isI.gx (isW.i4 (by assumption)) | exact isI.gc (isW.i4 (by assumption)) | exact isI.gx (isW.i5 (by assumption)) | exact isI.gc (isW.i5 (by assumption)) | exact isR.gx (by assumption) | exact isRd.gx (by assumption) | exact isSp.gx (by assumption) | exact isI.gx (isR.i (by assumption)) | exact isI.gx (isRd.i (by assumption)) | exact isI.gc (isRd.i (by assumption)) | exact isI.gx (isSp.i (by assumption)) | exact isW.gx (isR.w (by assumption)) | exact isW.gF (isR.w (by assumption)) | exact isK.gx (by assumption) | exact isK.gr (by assumption) | exact isI.gx (isK.row (by assumption) (by omega)) | exact isI.gc (isK.row (by assumption) (by omega)) | fail "no such object") rfl rfl (Nat.le_of_ble_eq_true rfl) (cw_scopeAt _ hW hc ha) (fun v_5 h_5 q_5 => ?_)
  obtain ⟨q1_5, rfl⟩ := q_5
  by_cases e_5 : inW c 1 60 a
  · obtain rfl := scAt_P e_5 q1_5
    refine r_ifnonnull (pc := 8) (tgt := 15) dX10_plan_8 (by decide) (by first | rfl | exact isRefV_rf _) (fun a_8 c_8 => ?_) (fun c_8 => by cases c_8)
    refine r_aload_n (pc := 15) dX10_plan_15 rfl (by first | rfl | exact isRefV_rf _) ?_
    refine r_getf (pc := 16) dX10_plan_16 fX10_51 (by first | assumption | exact isI.gx (by assumption) | exact isI.gc (by assumption) | exact isW.gx (by assumption) | exact isW.gF (by assumption) | exact isW.gT (by assumption) (by omega) | exact isW.gS (by assumption) (by omega) | exact isW.gK (by assumption) (by omega) | exact isW.g1 (by assumption) | exact isW.g2 (by assumption) | exact isW.g3 (by assumption) | exact isI.gx (isW.i0 (by assumption)) | exact isI.gc (isW.i0 (by assumption)) | exact isI.gx (isW.i1 (by assumption)) | exact isI.gc (isW.i1 (by assumption)) | exact isI.gx (isW.i2 (by assumption)) | exact isI.gc (isW.i2 (by assumption)) | exact isI.gx (isW.i3 (by assumption)) | exact isI.gc (isW.i3 (by assumption)) | exact isI.gx (isW.i4 (by assumption)) | exact isI.gc (isW.i4 (by assumption)) | exact isI.gx (isW.i5 (by assumption)) | exact isI.gc (isW.i5 (by assumption)) | exact isR.gx (by assumption) | exact isRd.gx (by assumption) | exact isSp.gx (by assumption) | exact isI.gx (isR.i (by assumption)) | exact isI.gx (isRd.i (by assumption)) | exact isI.gc (isRd.i (by assumption)) | exact isI.gx (isSp.i (by assumption)) | exact isW.gx (isR.w (by assumption)) | exact isW.gF (isR.w (by assumption)) | exact isK.gx (by assumption) | exact isK.gr (by assumption) | exact isI.gx (isK.row (by assumption) (by omega)) | exact isI.gc (isK.row (by assumption) (by omega)) | fail "no such object") (by rfl) ?_
    refine r_iload_n (pc := 19) dX10_plan_19 rfl ?_
    refine r_iload_n (pc := 20) dX10_plan_20 rfl ?_
    refine r_callV2 (pc := 21) dX10_plan_21 qX9_planned kX10_205 vX9_planned (by first | assumption | exact isI.gx (by assumption) | exact isI.gc (by assumption) | exact isW.gx (by assumption) | exact isW.gF (by assumption) | exact isW.gT (by assumption) (by omega) | exact isW.gS (by assumption) (by omega) | exact isW.gK (by assumption) (by omega) | exact isW.g1 (by assumption) | exact isW.g2 (by assumption) | exact isW.g3 (by assumption) | exact isI.gx (isW.i0 (by assumption)) | exact isI.gc (isW.i0 (by assumption)) | exact isI.gx (isW.i1 (by assumption)) | exact isI.gc (isW.i1 (by assumption)) | exact isI.gx (isW.i2 (by assumption)) | exact isI.gc (isW.i2 (by assumption)) | exact isI.gx (isW.i3 (by assumption)) | exact isI.gc (isW.i3 (by assumption)) | exact isI.gx (isW.i4 (by assumption)) | exact isI.gc (isW.i4 (by assumption)) | exact isI.gx (isW.i5 (by assumption)) | exact isI.gc (isW.i5 (by assumption)) | exact isR.gx (by assumption) | exact isRd.gx (by assumption) | exact isSp.gx (by assumption) | exact isI.gx (isR.i (by assumption)) | exact isI.gx (isRd.i (by assumption)) | exact isI.gc (isRd.i (by assumption)) | exact isI.gx (isSp.i (by assumption)) | exact isW.gx (isR.w (by assumption)) | exact isW.gF (isR.w (by assumption)) | exact isK.gx (by assumption) | exact isK.gr (by assumption) | exact isI.gx (isK.row (by assumption) (by omega)) | exact isI.gc (isK.row (by assumption) (by omega)) | fail "no such object") rfl rfl (Nat.le_of_ble_eq_true rfl) (cq_planned _ hW hc hZ hcapZ (hC 2) hO (s := a) ⟨by omega, by omega⟩ hi) (fun v_21 h_21 q_21 => ?_)
    obtain ⟨rfl, rfl⟩ := q_21
    refine r_ireturn (pc := 24) .int dX10_plan_24 rfl (by first | rfl | assumption) ?_
    first | exact ⟨by rw [if_pos (by assumption)], rfl⟩ | exact ⟨by rw [if_neg (by assumption)], rfl⟩
  · obtain rfl := scAt_N e_5 q1_5
    refine r_ifnonnull (pc := 8) (tgt := 15) dX10_plan_8 (by decide) (by first | rfl | exact isRefV_rf _) (fun a_8 c_8 => by cases c_8) (fun c_8 => ?_)
    refine rj_iconst (pc := 11) dX10_plan_11 ?_
    refine r_goto (pc := 12) (tgt := 24) dX10_plan_12 (by decide) ?_
    refine r_ireturn (pc := 24) .int dX10_plan_24 rfl (by first | rfl | assumption) ?_
    first | exact ⟨by rw [if_pos (by assumption)], rfl⟩ | exact ⟨by rw [if_neg (by assumption)], rfl⟩
end mg_d0
section mg_d1
/-! ===== the class: more calls that only ask, on any keeper ===== -/
set_option maxHeartbeats 4000000 in
set_option maxRecDepth 100000 in
theorem kg_below {G : mG} {l : Launch} (d : Nat) {h : mH} {x : Nat} {kp tk : Option Nat} {zr : Nat → Int} {fr : Nat → Nat → Int} {p e o zt : Int} {ft : Nat → Int} {zs : Int} {fs : Nat → Int} {b za : Int} {fa : Nat → Int} {c : Nat → Int} {C : Nat → Nat → Int} {nm : Nat → Int64} {g : Nat → Option Nat} (hK : isK h x kp tk zr fr p e o zt ft zs fs b za fa c C nm g) (hc : ∀ q, InR (c q)) (hC : ∀ k q, InR (C k q)) (hO : oOk c) {a : Int} (ha : InR a) {i : Int} (hi : InR i) : RUNM G l (d + 9) mX10_below [.ref x, .int (J a), .int (J i)] h (fun v h' => v = some (.int (J (if inW c 1 60 a ∧ inW c 1 60 i then bz (wiL c i 60 a) else -1))) ∧ h' = h) := by
  refine RUNM.of (by decide +kernel) (Nat.le_of_ble_eq_true rfl) ?_
  have hD := hK.d
  have hS := hK.s
  have hR := hK.r
  have hW := hK.w
  refine r_aload_n (pc := 0) dX10_below_0 rfl (by first | rfl | exact isRefV_rf _) ?_
  refine r_getf (pc := 1) dX10_below_1 fX10_51 (by first | assumption | exact isI.gx (by assumption) | exact isI.gc (by assumption) | exact isW.gx (by assumption) | exact isW.gF (by assumption) | exact isW.gT (by assumption) (by omega) | exact isW.gS (by assumption) (by omega) | exact isW.gK (by assumption) (by omega) | exact isW.g1 (by assumption) | exact isW.g2 (by assumption) | exact isW.g3 (by assumption) | exact isI.gx (isW.i0 (by assumption)) | exact isI.gc (isW.i0 (by assumption)) | exact isI.gx (isW.i1 (by assumption)) | exact isI.gc (isW.i1 (by assumption)) | exact isI.gx (isW.i2 (by assumption)) | exact isI.gc (isW.i2 (by assumption)) | exact isI.gx (isW.i3 (by assumption)) | exact isI.gc (isW.i3 (by assumption)) | exact isI.gx (isW.i4 (by assumption)) | exact isI.gc (isW.i4 (by assumption)) | exact isI.gx (isW.i5 (by assumption)) | exact isI.gc (isW.i5 (by assumption)) | exact isR.gx (by assumption) | exact isRd.gx (by assumption) | exact isSp.gx (by assumption) | exact isI.gx (isR.i (by assumption)) | exact isI.gx (isRd.i (by assumption)) | exact isI.gc (isRd.i (by assumption)) | exact isI.gx (isSp.i (by assumption)) | exact isW.gx (isR.w (by assumption)) | exact isW.gF (isR.w (by assumption)) | exact isK.gx (by assumption) | exact isK.gr (by assumption) | exact isI.gx (isK.row (by assumption) (by omega)) | exact isI.gc (isK.row (by assumption) (by omega)) | fail "no such object") (by rfl) ?_
  refine r_iload_n (pc := 4) dX10_below_4 rfl ?_
  refine r_callV1 (pc := 5) dX10_below_5 qX9_scopeAt kX10_95 vX9_scopeAt (by first | assumption | exact isI.gx (by assumption) | exact isI.gc (by assumption) | exact isW.gx (by assumption) | exact isW.gF (by assumption) | exact isW.gT (by assumption) (by omega) | exact isW.gS (by assumption) (by omega) | exact isW.gK (by assumption) (by omega) | exact isW.g1 (by assumption) | exact isW.g2 (by assumption) | exact isW.g3 (by assumption) | exact isI.gx (isW.i0 (by assumption)) | exact isI.gc (isW.i0 (by assumption)) | exact isI.gx (isW.i1 (by assumption)) | exact isI.gc (isW.i1 (by assumption)) | exact isI.gx (isW.i2 (by assumption)) | exact isI.gc (isW.i2 (by assumption)) | exact isI.gx (isW.i3 (by assumption)) | exact isI.gc (isW.i3 (by assumption)) | exact isI.gx (isW.i4 (by assumption)) | exact isI.gc (isW.i4 (by assumption)) | exact isI.gx (isW.i5 (by assumption)) | exact isI.gc (isW.i5 (by assumption)) | exact isR.gx (by assumption) | exact isRd.gx (by assumption) | exact isSp.gx (by assumption) | exact isI.gx (isR.i (by assumption)) | exact isI.gx (isRd.i (by assumption)) | exact isI.gc (isRd.i (by assumption)) | exact isI.gx (isSp.i (by assumption)) | exact isW.gx (isR.w (by assumption)) | exact isW.gF (isR.w (by assumption)) | exact isK.gx (by assumption) | exact isK.gr (by assumption) | exact isI.gx (isK.row (by assumption) (by omega)) | exact isI.gc (isK.row (by assumption) (by omega)) | fail "no such object") rfl rfl (Nat.le_of_ble_eq_true rfl) (cw_scopeAt _ hW hc ha) (fun v_5 h_5 q_5 => ?_)
  obtain ⟨q1_5, rfl⟩ := q_5
  by_cases e_5 : inW c 1 60 a
  · obtain rfl := scAt_P e_5 q1_5
    refine r_ifnull (pc := 8) (tgt := 22) dX10_below_8 (by decide) (by first | rfl | exact isRefV_rf _) (fun c_8 => by cases c_8) (fun a_8 c_8 => ?_)
    refine r_aload_n (pc := 11) dX10_below_11 rfl (by first | rfl | exact isRefV_rf _) ?_
    refine r_getf (pc := 12) dX10_below_12 fX10_51 (by first | assumption | exact isI.gx (by assumption) | exact isI.gc (by assumption) | exact isW.gx (by assumption) | exact isW.gF (by assumption) | exact isW.gT (by assumption) (by omega) | exact isW.gS (by assumption) (by omega) | exact isW.gK (by assumption) (by omega) | exact isW.g1 (by assumption) | exact isW.g2 (by assumption) | exact isW.g3 (by assumption) | exact isI.gx (isW.i0 (by assumption)) | exact isI.gc (isW.i0 (by assumption)) | exact isI.gx (isW.i1 (by assumption)) | exact isI.gc (isW.i1 (by assumption)) | exact isI.gx (isW.i2 (by assumption)) | exact isI.gc (isW.i2 (by assumption)) | exact isI.gx (isW.i3 (by assumption)) | exact isI.gc (isW.i3 (by assumption)) | exact isI.gx (isW.i4 (by assumption)) | exact isI.gc (isW.i4 (by assumption)) | exact isI.gx (isW.i5 (by assumption)) | exact isI.gc (isW.i5 (by assumption)) | exact isR.gx (by assumption) | exact isRd.gx (by assumption) | exact isSp.gx (by assumption) | exact isI.gx (isR.i (by assumption)) | exact isI.gx (isRd.i (by assumption)) | exact isI.gc (isRd.i (by assumption)) | exact isI.gx (isSp.i (by assumption)) | exact isW.gx (isR.w (by assumption)) | exact isW.gF (isR.w (by assumption)) | exact isK.gx (by assumption) | exact isK.gr (by assumption) | exact isI.gx (isK.row (by assumption) (by omega)) | exact isI.gc (isK.row (by assumption) (by omega)) | fail "no such object") (by rfl) ?_
    refine r_iload_n (pc := 15) dX10_below_15 rfl ?_
    refine r_callV1 (pc := 16) dX10_below_16 qX9_scopeAt kX10_95 vX9_scopeAt (by first | assumption | exact isI.gx (by assumption) | exact isI.gc (by assumption) | exact isW.gx (by assumption) | exact isW.gF (by assumption) | exact isW.gT (by assumption) (by omega) | exact isW.gS (by assumption) (by omega) | exact isW.gK (by assumption) (by omega) | exact isW.g1 (by assumption) | exact isW.g2 (by assumption) | exact isW.g3 (by assumption) | exact isI.gx (isW.i0 (by assumption)) | exact isI.gc (isW.i0 (by assumption)) | exact isI.gx (isW.i1 (by assumption)) | exact isI.gc (isW.i1 (by assumption)) | exact isI.gx (isW.i2 (by assumption)) | exact isI.gc (isW.i2 (by assumption)) | exact isI.gx (isW.i3 (by assumption)) | exact isI.gc (isW.i3 (by assumption)) | exact isI.gx (isW.i4 (by assumption)) | exact isI.gc (isW.i4 (by assumption)) | exact isI.gx (isW.i5 (by assumption)) | exact isI.gc (isW.i5 (by assumption)) | exact isR.gx (by assumption) | exact isRd.gx (by assumption) | exact isSp.gx (by assumption) | exact isI.gx (isR.i (by assumption)) | exact isI.gx (isRd.i (by assumption)) | exact isI.gc (isRd.i (by assumption)) | exact isI.gx (isSp.i (by assumption)) | exact isW.gx (isR.w (by assumption)) | exact isW.gF (isR.w (by assumption)) | exact isK.gx (by assumption) | exact isK.gr (by assumption) | exact isI.gx (isK.row (by assumption) (by omega)) | exact isI.gc (isK.row (by assumption) (by omega)) | fail "no such object") rfl rfl (Nat.le_of_ble_eq_true rfl) (cw_scopeAt _ hW hc hi) (fun v_16 h_16 q_16 => ?_)
    obtain ⟨q1_16, rfl⟩ := q_16
    by_cases e_16 : inW c 1 60 i
    · obtain rfl := scAt_P e_16 q1_16
      refine r_ifnonnull (pc := 19) (tgt := 24) dX10_below_19 (by decide) (by first | rfl | exact isRefV_rf _) (fun a_19 c_19 => ?_) (fun c_19 => by cases c_19)
      refine r_aload_n (pc := 24) dX10_below_24 rfl (by first | rfl | exact isRefV_rf _) ?_
      refine r_getf (pc := 25) dX10_below_25 fX10_51 (by first | assumption | exact isI.gx (by assumption) | exact isI.gc (by assumption) | exact isW.gx (by assumption) | exact isW.gF (by assumption) | exact isW.gT (by assumption) (by omega) | exact isW.gS (by assumption) (by omega) | exact isW.gK (by assumption) (by omega) | exact isW.g1 (by assumption) | exact isW.g2 (by assumption) | exact isW.g3 (by assumption) | exact isI.gx (isW.i0 (by assumption)) | exact isI.gc (isW.i0 (by assumption)) | exact isI.gx (isW.i1 (by assumption)) | exact isI.gc (isW.i1 (by assumption)) | exact isI.gx (isW.i2 (by assumption)) | exact isI.gc (isW.i2 (by assumption)) | exact isI.gx (isW.i3 (by assumption)) | exact isI.gc (isW.i3 (by assumption)) | exact isI.gx (isW.i4 (by assumption)) | exact isI.gc (isW.i4 (by assumption)) | exact isI.gx (isW.i5 (by assumption)) | exact isI.gc (isW.i5 (by assumption)) | exact isR.gx (by assumption) | exact isRd.gx (by assumption) | exact isSp.gx (by assumption) | exact isI.gx (isR.i (by assumption)) | exact isI.gx (isRd.i (by assumption)) | exact isI.gc (isRd.i (by assumption)) | exact isI.gx (isSp.i (by assumption)) | exact isW.gx (isR.w (by assumption)) | exact isW.gF (isR.w (by assumption)) | exact isK.gx (by assumption) | exact isK.gr (by assumption) | exact isI.gx (isK.row (by assumption) (by omega)) | exact isI.gc (isK.row (by assumption) (by omega)) | fail "no such object") (by rfl) ?_
      refine r_iload_n (pc := 28) dX10_below_28 rfl ?_
      refine r_iload_n (pc := 29) dX10_below_29 rfl ?_
      refine r_callV2 (pc := 30) dX10_below_30 qX9_isWithin kX10_167 vX9_isWithin (by first | assumption | exact isI.gx (by assumption) | exact isI.gc (by assumption) | exact isW.gx (by assumption) | exact isW.gF (by assumption) | exact isW.gT (by assumption) (by omega) | exact isW.gS (by assumption) (by omega) | exact isW.gK (by assumption) (by omega) | exact isW.g1 (by assumption) | exact isW.g2 (by assumption) | exact isW.g3 (by assumption) | exact isI.gx (isW.i0 (by assumption)) | exact isI.gc (isW.i0 (by assumption)) | exact isI.gx (isW.i1 (by assumption)) | exact isI.gc (isW.i1 (by assumption)) | exact isI.gx (isW.i2 (by assumption)) | exact isI.gc (isW.i2 (by assumption)) | exact isI.gx (isW.i3 (by assumption)) | exact isI.gc (isW.i3 (by assumption)) | exact isI.gx (isW.i4 (by assumption)) | exact isI.gc (isW.i4 (by assumption)) | exact isI.gx (isW.i5 (by assumption)) | exact isI.gc (isW.i5 (by assumption)) | exact isR.gx (by assumption) | exact isRd.gx (by assumption) | exact isSp.gx (by assumption) | exact isI.gx (isR.i (by assumption)) | exact isI.gx (isRd.i (by assumption)) | exact isI.gc (isRd.i (by assumption)) | exact isI.gx (isSp.i (by assumption)) | exact isW.gx (isR.w (by assumption)) | exact isW.gF (isR.w (by assumption)) | exact isK.gx (by assumption) | exact isK.gr (by assumption) | exact isI.gx (isK.row (by assumption) (by omega)) | exact isI.gc (isK.row (by assumption) (by omega)) | fail "no such object") rfl rfl (Nat.le_of_ble_eq_true rfl) (cq_isWithin _ hW hc hO (i := a) (by omega) (by omega) hi) (fun v_30 h_30 q_30 => ?_)
      obtain ⟨rfl, rfl⟩ := q_30
      refine rj_if_eq (pc := 33) (tgt := 40) dX10_below_33 (by decide) (by first | exact b01_r | exact bz_r | omega | (constructor <;> omega) | apply_assumption | (apply atF_r; assumption) | fail "no range") (fun c_33 => ?_) (fun c_33 => ?_)
      · try simp only [b01_0, bz_0, Classical.not_not] at c_33
        refine rj_iconst (pc := 40) dX10_below_40 ?_
        refine r_ireturn (pc := 41) .int dX10_below_41 rfl (by first | rfl | assumption) ?_
        refine ⟨?_, rfl⟩
        first | (rw [if_neg (fun z => absurd z.1 (by assumption))]; done) | (rw [if_neg (fun z => absurd z.2 (by assumption))]; done) | (rw [if_pos ⟨by assumption, by assumption⟩, show wiL c i 60 a = true by assumption]; rfl) | (rw [if_pos ⟨by assumption, by assumption⟩, Bool.eq_false_iff.mpr (show ¬ wiL c i 60 a = true by assumption)]; rfl)
      · try simp only [b01_0, bz_0, Classical.not_not] at c_33
        refine rj_iconst (pc := 36) dX10_below_36 ?_
        refine r_goto (pc := 37) (tgt := 41) dX10_below_37 (by decide) ?_
        refine r_ireturn (pc := 41) .int dX10_below_41 rfl (by first | rfl | assumption) ?_
        refine ⟨?_, rfl⟩
        first | (rw [if_neg (fun z => absurd z.1 (by assumption))]; done) | (rw [if_neg (fun z => absurd z.2 (by assumption))]; done) | (rw [if_pos ⟨by assumption, by assumption⟩, show wiL c i 60 a = true by assumption]; rfl) | (rw [if_pos ⟨by assumption, by assumption⟩, Bool.eq_false_iff.mpr (show ¬ wiL c i 60 a = true by assumption)]; rfl)
    · obtain rfl := scAt_N e_16 q1_16
      refine r_ifnonnull (pc := 19) (tgt := 24) dX10_below_19 (by decide) (by first | rfl | exact isRefV_rf _) (fun a_19 c_19 => by cases c_19) (fun c_19 => ?_)
      refine rj_iconst (pc := 22) dX10_below_22 ?_
      refine r_ireturn (pc := 23) .int dX10_below_23 rfl (by first | rfl | assumption) ?_
      refine ⟨?_, rfl⟩
      first | (rw [if_neg (fun z => absurd z.1 (by assumption))]; done) | (rw [if_neg (fun z => absurd z.2 (by assumption))]; done) | (rw [if_pos ⟨by assumption, by assumption⟩, show wiL c i 60 a = true by assumption]; rfl) | (rw [if_pos ⟨by assumption, by assumption⟩, Bool.eq_false_iff.mpr (show ¬ wiL c i 60 a = true by assumption)]; rfl)
  · obtain rfl := scAt_N e_5 q1_5
    refine r_ifnull (pc := 8) (tgt := 22) dX10_below_8 (by decide) (by first | rfl | exact isRefV_rf _) (fun c_8 => ?_) (fun a_8 c_8 => by cases c_8)
    refine rj_iconst (pc := 22) dX10_below_22 ?_
    refine r_ireturn (pc := 23) .int dX10_below_23 rfl (by first | rfl | assumption) ?_
    refine ⟨?_, rfl⟩
    first | (rw [if_neg (fun z => absurd z.1 (by assumption))]; done) | (rw [if_neg (fun z => absurd z.2 (by assumption))]; done) | (rw [if_pos ⟨by assumption, by assumption⟩, show wiL c i 60 a = true by assumption]; rfl) | (rw [if_pos ⟨by assumption, by assumption⟩, Bool.eq_false_iff.mpr (show ¬ wiL c i 60 a = true by assumption)]; rfl)
set_option maxHeartbeats 4000000 in
set_option maxRecDepth 100000 in
theorem kg_log {G : mG} {l : Launch} (d : Nat) {h : mH} {x : Nat} {kp tk : Option Nat} {zr : Nat → Int} {fr : Nat → Nat → Int} {p e o zt : Int} {ft : Nat → Int} {zs : Int} {fs : Nat → Int} {b za : Int} {fa : Nat → Int} {c : Nat → Int} {C : Nat → Nat → Int} {nm : Nat → Int64} {g : Nat → Option Nat} (hK : isK h x kp tk zr fr p e o zt ft zs fs b za fa c C nm g) (hc : ∀ q, InR (c q)) (hC : ∀ k q, InR (C k q)) {a : Int} (ha : InR a) : RUNM G l (d + 9) mX10_log [.ref x, .int (J a)] h (fun v h' => v = some (.int (J (if inI 90 (c 9) a then C 1 a.toNat else -1))) ∧ h' = h) := by
  refine RUNM.of (by decide +kernel) (Nat.le_of_ble_eq_true rfl) ?_
  have hD := hK.d
  have hS := hK.s
  have hR := hK.r
  have hW := hK.w
  refine r_aload_n (pc := 0) dX10_log_0 rfl (by first | rfl | exact isRefV_rf _) ?_
  refine r_getf (pc := 1) dX10_log_1 fX10_51 (by first | assumption | exact isI.gx (by assumption) | exact isI.gc (by assumption) | exact isW.gx (by assumption) | exact isW.gF (by assumption) | exact isW.gT (by assumption) (by omega) | exact isW.gS (by assumption) (by omega) | exact isW.gK (by assumption) (by omega) | exact isW.g1 (by assumption) | exact isW.g2 (by assumption) | exact isW.g3 (by assumption) | exact isI.gx (isW.i0 (by assumption)) | exact isI.gc (isW.i0 (by assumption)) | exact isI.gx (isW.i1 (by assumption)) | exact isI.gc (isW.i1 (by assumption)) | exact isI.gx (isW.i2 (by assumption)) | exact isI.gc (isW.i2 (by assumption)) | exact isI.gx (isW.i3 (by assumption)) | exact isI.gc (isW.i3 (by assumption)) | exact isI.gx (isW.i4 (by assumption)) | exact isI.gc (isW.i4 (by assumption)) | exact isI.gx (isW.i5 (by assumption)) | exact isI.gc (isW.i5 (by assumption)) | exact isR.gx (by assumption) | exact isRd.gx (by assumption) | exact isSp.gx (by assumption) | exact isI.gx (isR.i (by assumption)) | exact isI.gx (isRd.i (by assumption)) | exact isI.gc (isRd.i (by assumption)) | exact isI.gx (isSp.i (by assumption)) | exact isW.gx (isR.w (by assumption)) | exact isW.gF (isR.w (by assumption)) | exact isK.gx (by assumption) | exact isK.gr (by assumption) | exact isI.gx (isK.row (by assumption) (by omega)) | exact isI.gc (isK.row (by assumption) (by omega)) | fail "no such object") (by rfl) ?_
  refine r_getf (pc := 4) dX10_log_4 fX10_218 (by first | assumption | exact isI.gx (by assumption) | exact isI.gc (by assumption) | exact isW.gx (by assumption) | exact isW.gF (by assumption) | exact isW.gT (by assumption) (by omega) | exact isW.gS (by assumption) (by omega) | exact isW.gK (by assumption) (by omega) | exact isW.g1 (by assumption) | exact isW.g2 (by assumption) | exact isW.g3 (by assumption) | exact isI.gx (isW.i0 (by assumption)) | exact isI.gc (isW.i0 (by assumption)) | exact isI.gx (isW.i1 (by assumption)) | exact isI.gc (isW.i1 (by assumption)) | exact isI.gx (isW.i2 (by assumption)) | exact isI.gc (isW.i2 (by assumption)) | exact isI.gx (isW.i3 (by assumption)) | exact isI.gc (isW.i3 (by assumption)) | exact isI.gx (isW.i4 (by assumption)) | exact isI.gc (isW.i4 (by assumption)) | exact isI.gx (isW.i5 (by assumption)) | exact isI.gc (isW.i5 (by assumption)) | exact isR.gx (by assumption) | exact isRd.gx (by assumption) | exact isSp.gx (by assumption) | exact isI.gx (isR.i (by assumption)) | exact isI.gx (isRd.i (by assumption)) | exact isI.gc (isRd.i (by assumption)) | exact isI.gx (isSp.i (by assumption)) | exact isW.gx (isR.w (by assumption)) | exact isW.gF (isR.w (by assumption)) | exact isK.gx (by assumption) | exact isK.gr (by assumption) | exact isI.gx (isK.row (by assumption) (by omega)) | exact isI.gc (isK.row (by assumption) (by omega)) | fail "no such object") (by rfl) ?_
  refine r_iload_n (pc := 7) dX10_log_7 rfl ?_
  refine r_callV1 (pc := 8) dX10_log_8 qX1_has kX10_88 vX1_has (by first | assumption | exact isI.gx (by assumption) | exact isI.gc (by assumption) | exact isW.gx (by assumption) | exact isW.gF (by assumption) | exact isW.gT (by assumption) (by omega) | exact isW.gS (by assumption) (by omega) | exact isW.gK (by assumption) (by omega) | exact isW.g1 (by assumption) | exact isW.g2 (by assumption) | exact isW.g3 (by assumption) | exact isI.gx (isW.i0 (by assumption)) | exact isI.gc (isW.i0 (by assumption)) | exact isI.gx (isW.i1 (by assumption)) | exact isI.gc (isW.i1 (by assumption)) | exact isI.gx (isW.i2 (by assumption)) | exact isI.gc (isW.i2 (by assumption)) | exact isI.gx (isW.i3 (by assumption)) | exact isI.gc (isW.i3 (by assumption)) | exact isI.gx (isW.i4 (by assumption)) | exact isI.gc (isW.i4 (by assumption)) | exact isI.gx (isW.i5 (by assumption)) | exact isI.gc (isW.i5 (by assumption)) | exact isR.gx (by assumption) | exact isRd.gx (by assumption) | exact isSp.gx (by assumption) | exact isI.gx (isR.i (by assumption)) | exact isI.gx (isRd.i (by assumption)) | exact isI.gc (isRd.i (by assumption)) | exact isI.gx (isSp.i (by assumption)) | exact isW.gx (isR.w (by assumption)) | exact isW.gF (isR.w (by assumption)) | exact isK.gx (by assumption) | exact isK.gr (by assumption) | exact isI.gx (isK.row (by assumption) (by omega)) | exact isI.gc (isK.row (by assumption) (by omega)) | fail "no such object") rfl rfl (Nat.le_of_ble_eq_true rfl) (ci_has _ hW.i1 (by decide) (hc _) ha) (fun v_8 h_8 q_8 => ?_)
  obtain ⟨rfl, rfl⟩ := q_8
  refine rj_if_eq (pc := 11) (tgt := 28) dX10_log_11 (by decide) (by first | exact b01_r | exact bz_r | omega | (constructor <;> omega) | apply_assumption | (apply atF_r; assumption) | fail "no range") (fun c_11 => ?_) (fun c_11 => ?_)
  · try simp only [b01_0, bz_0, Classical.not_not] at c_11
    refine rj_iconst (pc := 28) dX10_log_28 ?_
    refine r_ireturn (pc := 29) .int dX10_log_29 rfl (by first | rfl | assumption) ?_
    first | exact ⟨by rw [if_neg (by omega)], rfl⟩ | exact ⟨by rw [if_pos (by omega)]; unfold atF; rw [if_pos (by omega)], rfl⟩
  · try simp only [b01_0, bz_0, Classical.not_not] at c_11
    refine r_aload_n (pc := 14) dX10_log_14 rfl (by first | rfl | exact isRefV_rf _) ?_
    refine r_getf (pc := 15) dX10_log_15 fX10_51 (by first | assumption | exact isI.gx (by assumption) | exact isI.gc (by assumption) | exact isW.gx (by assumption) | exact isW.gF (by assumption) | exact isW.gT (by assumption) (by omega) | exact isW.gS (by assumption) (by omega) | exact isW.gK (by assumption) (by omega) | exact isW.g1 (by assumption) | exact isW.g2 (by assumption) | exact isW.g3 (by assumption) | exact isI.gx (isW.i0 (by assumption)) | exact isI.gc (isW.i0 (by assumption)) | exact isI.gx (isW.i1 (by assumption)) | exact isI.gc (isW.i1 (by assumption)) | exact isI.gx (isW.i2 (by assumption)) | exact isI.gc (isW.i2 (by assumption)) | exact isI.gx (isW.i3 (by assumption)) | exact isI.gc (isW.i3 (by assumption)) | exact isI.gx (isW.i4 (by assumption)) | exact isI.gc (isW.i4 (by assumption)) | exact isI.gx (isW.i5 (by assumption)) | exact isI.gc (isW.i5 (by assumption)) | exact isR.gx (by assumption) | exact isRd.gx (by assumption) | exact isSp.gx (by assumption) | exact isI.gx (isR.i (by assumption)) | exact isI.gx (isRd.i (by assumption)) | exact isI.gc (isRd.i (by assumption)) | exact isI.gx (isSp.i (by assumption)) | exact isW.gx (isR.w (by assumption)) | exact isW.gF (isR.w (by assumption)) | exact isK.gx (by assumption) | exact isK.gr (by assumption) | exact isI.gx (isK.row (by assumption) (by omega)) | exact isI.gc (isK.row (by assumption) (by omega)) | fail "no such object") (by rfl) ?_
    refine r_getf (pc := 18) dX10_log_18 fX10_218 (by first | assumption | exact isI.gx (by assumption) | exact isI.gc (by assumption) | exact isW.gx (by assumption) | exact isW.gF (by assumption) | exact isW.gT (by assumption) (by omega) | exact isW.gS (by assumption) (by omega) | exact isW.gK (by assumption) (by omega) | exact isW.g1 (by assumption) | exact isW.g2 (by assumption) | exact isW.g3 (by assumption) | exact isI.gx (isW.i0 (by assumption)) | exact isI.gc (isW.i0 (by assumption)) | exact isI.gx (isW.i1 (by assumption)) | exact isI.gc (isW.i1 (by assumption)) | exact isI.gx (isW.i2 (by assumption)) | exact isI.gc (isW.i2 (by assumption)) | exact isI.gx (isW.i3 (by assumption)) | exact isI.gc (isW.i3 (by assumption)) | exact isI.gx (isW.i4 (by assumption)) | exact isI.gc (isW.i4 (by assumption)) | exact isI.gx (isW.i5 (by assumption)) | exact isI.gc (isW.i5 (by assumption)) | exact isR.gx (by assumption) | exact isRd.gx (by assumption) | exact isSp.gx (by assumption) | exact isI.gx (isR.i (by assumption)) | exact isI.gx (isRd.i (by assumption)) | exact isI.gc (isRd.i (by assumption)) | exact isI.gx (isSp.i (by assumption)) | exact isW.gx (isR.w (by assumption)) | exact isW.gF (isR.w (by assumption)) | exact isK.gx (by assumption) | exact isK.gr (by assumption) | exact isI.gx (isK.row (by assumption) (by omega)) | exact isI.gc (isK.row (by assumption) (by omega)) | fail "no such object") (by rfl) ?_
    refine r_iload_n (pc := 21) dX10_log_21 rfl ?_
    refine r_callV1 (pc := 22) dX10_log_22 qX1_at kX10_91 vX1_at (by first | assumption | exact isI.gx (by assumption) | exact isI.gc (by assumption) | exact isW.gx (by assumption) | exact isW.gF (by assumption) | exact isW.gT (by assumption) (by omega) | exact isW.gS (by assumption) (by omega) | exact isW.gK (by assumption) (by omega) | exact isW.g1 (by assumption) | exact isW.g2 (by assumption) | exact isW.g3 (by assumption) | exact isI.gx (isW.i0 (by assumption)) | exact isI.gc (isW.i0 (by assumption)) | exact isI.gx (isW.i1 (by assumption)) | exact isI.gc (isW.i1 (by assumption)) | exact isI.gx (isW.i2 (by assumption)) | exact isI.gc (isW.i2 (by assumption)) | exact isI.gx (isW.i3 (by assumption)) | exact isI.gc (isW.i3 (by assumption)) | exact isI.gx (isW.i4 (by assumption)) | exact isI.gc (isW.i4 (by assumption)) | exact isI.gx (isW.i5 (by assumption)) | exact isI.gc (isW.i5 (by assumption)) | exact isR.gx (by assumption) | exact isRd.gx (by assumption) | exact isSp.gx (by assumption) | exact isI.gx (isR.i (by assumption)) | exact isI.gx (isRd.i (by assumption)) | exact isI.gc (isRd.i (by assumption)) | exact isI.gx (isSp.i (by assumption)) | exact isW.gx (isR.w (by assumption)) | exact isW.gF (isR.w (by assumption)) | exact isK.gx (by assumption) | exact isK.gr (by assumption) | exact isI.gx (isK.row (by assumption) (by omega)) | exact isI.gc (isK.row (by assumption) (by omega)) | fail "no such object") rfl rfl (Nat.le_of_ble_eq_true rfl) (ci_at _ hW.i1 (by decide) (hc _) ha) (fun v_22 h_22 q_22 => ?_)
    obtain ⟨rfl, rfl⟩ := q_22
    refine r_goto (pc := 25) (tgt := 29) dX10_log_25 (by decide) ?_
    refine r_ireturn (pc := 29) .int dX10_log_29 rfl (by first | rfl | assumption) ?_
    first | exact ⟨by rw [if_neg (by omega)], rfl⟩ | exact ⟨by rw [if_pos (by omega)]; unfold atF; rw [if_pos (by omega)], rfl⟩
set_option maxHeartbeats 4000000 in
set_option maxRecDepth 100000 in
theorem kg_faults {G : mG} {l : Launch} (d : Nat) {h : mH} {x : Nat} {kp tk : Option Nat} {zr : Nat → Int} {fr : Nat → Nat → Int} {p e o zt : Int} {ft : Nat → Int} {zs : Int} {fs : Nat → Int} {b za : Int} {fa : Nat → Int} {c : Nat → Int} {C : Nat → Nat → Int} {nm : Nat → Int64} {g : Nat → Option Nat} (hK : isK h x kp tk zr fr p e o zt ft zs fs b za fa c C nm g) (hc : ∀ q, InR (c q)) (hC : ∀ k q, InR (C k q)) {F : Nat} (h11 : c 11 = (F : Int)) (h12 : c 12 = (F : Int)) (h13 : c 13 = (F : Int)) (hcapF : F ≤ 90) (h4 : 0 ≤ c 4 ∧ c 4 ≤ (F : Int)) {a : Int} (ha : InR a) : RUNM G l (d + 9) mX10_faults [.ref x, .int (J a)] h (fun v h' => v = some (.int (J (if a = -1 ∨ inW c 2 10 a then fcF c (C 5) F a else -1))) ∧ h' = h) := by
  refine RUNM.of (by decide +kernel) (Nat.le_of_ble_eq_true rfl) ?_
  have hD := hK.d
  have hS := hK.s
  have hR := hK.r
  have hW := hK.w
  refine r_iload_n (pc := 0) dX10_faults_0 rfl ?_
  refine rj_iconst (pc := 1) dX10_faults_1 ?_
  refine rj_icmp_eq (pc := 2) (tgt := 18) dX10_faults_2 (by decide) (by first | exact b01_r | exact bz_r | omega | (constructor <;> omega) | apply_assumption | (apply atF_r; assumption) | fail "no range") (by first | exact b01_r | exact bz_r | omega | (constructor <;> omega) | apply_assumption | (apply atF_r; assumption) | fail "no range") (fun c_2 => ?_) (fun c_2 => ?_)
  · refine r_aload_n (pc := 18) dX10_faults_18 rfl (by first | rfl | exact isRefV_rf _) ?_
    refine r_getf (pc := 19) dX10_faults_19 fX10_51 (by first | assumption | exact isI.gx (by assumption) | exact isI.gc (by assumption) | exact isW.gx (by assumption) | exact isW.gF (by assumption) | exact isW.gT (by assumption) (by omega) | exact isW.gS (by assumption) (by omega) | exact isW.gK (by assumption) (by omega) | exact isW.g1 (by assumption) | exact isW.g2 (by assumption) | exact isW.g3 (by assumption) | exact isI.gx (isW.i0 (by assumption)) | exact isI.gc (isW.i0 (by assumption)) | exact isI.gx (isW.i1 (by assumption)) | exact isI.gc (isW.i1 (by assumption)) | exact isI.gx (isW.i2 (by assumption)) | exact isI.gc (isW.i2 (by assumption)) | exact isI.gx (isW.i3 (by assumption)) | exact isI.gc (isW.i3 (by assumption)) | exact isI.gx (isW.i4 (by assumption)) | exact isI.gc (isW.i4 (by assumption)) | exact isI.gx (isW.i5 (by assumption)) | exact isI.gc (isW.i5 (by assumption)) | exact isR.gx (by assumption) | exact isRd.gx (by assumption) | exact isSp.gx (by assumption) | exact isI.gx (isR.i (by assumption)) | exact isI.gx (isRd.i (by assumption)) | exact isI.gc (isRd.i (by assumption)) | exact isI.gx (isSp.i (by assumption)) | exact isW.gx (isR.w (by assumption)) | exact isW.gF (isR.w (by assumption)) | exact isK.gx (by assumption) | exact isK.gr (by assumption) | exact isI.gx (isK.row (by assumption) (by omega)) | exact isI.gc (isK.row (by assumption) (by omega)) | fail "no such object") (by rfl) ?_
    refine r_iload_n (pc := 22) dX10_faults_22 rfl ?_
    refine r_callV1 (pc := 23) dX10_faults_23 qX9_faultCount kX10_227 vX9_faultCount (by first | assumption | exact isI.gx (by assumption) | exact isI.gc (by assumption) | exact isW.gx (by assumption) | exact isW.gF (by assumption) | exact isW.gT (by assumption) (by omega) | exact isW.gS (by assumption) (by omega) | exact isW.gK (by assumption) (by omega) | exact isW.g1 (by assumption) | exact isW.g2 (by assumption) | exact isW.g3 (by assumption) | exact isI.gx (isW.i0 (by assumption)) | exact isI.gc (isW.i0 (by assumption)) | exact isI.gx (isW.i1 (by assumption)) | exact isI.gc (isW.i1 (by assumption)) | exact isI.gx (isW.i2 (by assumption)) | exact isI.gc (isW.i2 (by assumption)) | exact isI.gx (isW.i3 (by assumption)) | exact isI.gc (isW.i3 (by assumption)) | exact isI.gx (isW.i4 (by assumption)) | exact isI.gc (isW.i4 (by assumption)) | exact isI.gx (isW.i5 (by assumption)) | exact isI.gc (isW.i5 (by assumption)) | exact isR.gx (by assumption) | exact isRd.gx (by assumption) | exact isSp.gx (by assumption) | exact isI.gx (isR.i (by assumption)) | exact isI.gx (isRd.i (by assumption)) | exact isI.gc (isRd.i (by assumption)) | exact isI.gx (isSp.i (by assumption)) | exact isW.gx (isR.w (by assumption)) | exact isW.gF (isR.w (by assumption)) | exact isK.gx (by assumption) | exact isK.gr (by assumption) | exact isI.gx (isK.row (by assumption) (by omega)) | exact isI.gc (isK.row (by assumption) (by omega)) | fail "no such object") rfl rfl (Nat.le_of_ble_eq_true rfl) (cq_faultCount _ hW hc h11 h12 h13 hcapF h4 (hC 5) ha) (fun v_23 h_23 q_23 => ?_)
    obtain ⟨rfl, rfl⟩ := q_23
    refine r_ireturn (pc := 26) .int dX10_faults_26 rfl (by first | rfl | assumption) ?_
    first | exact ⟨by rw [if_pos (by omega)], rfl⟩ | exact ⟨by rw [if_neg (by omega)], rfl⟩
  · refine r_aload_n (pc := 5) dX10_faults_5 rfl (by first | rfl | exact isRefV_rf _) ?_
    refine r_getf (pc := 6) dX10_faults_6 fX10_51 (by first | assumption | exact isI.gx (by assumption) | exact isI.gc (by assumption) | exact isW.gx (by assumption) | exact isW.gF (by assumption) | exact isW.gT (by assumption) (by omega) | exact isW.gS (by assumption) (by omega) | exact isW.gK (by assumption) (by omega) | exact isW.g1 (by assumption) | exact isW.g2 (by assumption) | exact isW.g3 (by assumption) | exact isI.gx (isW.i0 (by assumption)) | exact isI.gc (isW.i0 (by assumption)) | exact isI.gx (isW.i1 (by assumption)) | exact isI.gc (isW.i1 (by assumption)) | exact isI.gx (isW.i2 (by assumption)) | exact isI.gc (isW.i2 (by assumption)) | exact isI.gx (isW.i3 (by assumption)) | exact isI.gc (isW.i3 (by assumption)) | exact isI.gx (isW.i4 (by assumption)) | exact isI.gc (isW.i4 (by assumption)) | exact isI.gx (isW.i5 (by assumption)) | exact isI.gc (isW.i5 (by assumption)) | exact isR.gx (by assumption) | exact isRd.gx (by assumption) | exact isSp.gx (by assumption) | exact isI.gx (isR.i (by assumption)) | exact isI.gx (isRd.i (by assumption)) | exact isI.gc (isRd.i (by assumption)) | exact isI.gx (isSp.i (by assumption)) | exact isW.gx (isR.w (by assumption)) | exact isW.gF (isR.w (by assumption)) | exact isK.gx (by assumption) | exact isK.gr (by assumption) | exact isI.gx (isK.row (by assumption) (by omega)) | exact isI.gc (isK.row (by assumption) (by omega)) | fail "no such object") (by rfl) ?_
    refine r_iload_n (pc := 9) dX10_faults_9 rfl ?_
    refine r_callV1 (pc := 10) dX10_faults_10 qX9_taskAt kX10_79 vX9_taskAt (by first | assumption | exact isI.gx (by assumption) | exact isI.gc (by assumption) | exact isW.gx (by assumption) | exact isW.gF (by assumption) | exact isW.gT (by assumption) (by omega) | exact isW.gS (by assumption) (by omega) | exact isW.gK (by assumption) (by omega) | exact isW.g1 (by assumption) | exact isW.g2 (by assumption) | exact isW.g3 (by assumption) | exact isI.gx (isW.i0 (by assumption)) | exact isI.gc (isW.i0 (by assumption)) | exact isI.gx (isW.i1 (by assumption)) | exact isI.gc (isW.i1 (by assumption)) | exact isI.gx (isW.i2 (by assumption)) | exact isI.gc (isW.i2 (by assumption)) | exact isI.gx (isW.i3 (by assumption)) | exact isI.gc (isW.i3 (by assumption)) | exact isI.gx (isW.i4 (by assumption)) | exact isI.gc (isW.i4 (by assumption)) | exact isI.gx (isW.i5 (by assumption)) | exact isI.gc (isW.i5 (by assumption)) | exact isR.gx (by assumption) | exact isRd.gx (by assumption) | exact isSp.gx (by assumption) | exact isI.gx (isR.i (by assumption)) | exact isI.gx (isRd.i (by assumption)) | exact isI.gc (isRd.i (by assumption)) | exact isI.gx (isSp.i (by assumption)) | exact isW.gx (isR.w (by assumption)) | exact isW.gF (isR.w (by assumption)) | exact isK.gx (by assumption) | exact isK.gr (by assumption) | exact isI.gx (isK.row (by assumption) (by omega)) | exact isI.gc (isK.row (by assumption) (by omega)) | fail "no such object") rfl rfl (Nat.le_of_ble_eq_true rfl) (cw_taskAt _ hW hc ha) (fun v_10 h_10 q_10 => ?_)
    obtain ⟨q1_10, rfl⟩ := q_10
    by_cases e_10 : inW c 2 10 a
    · obtain rfl := tkAt_P e_10 q1_10
      refine r_ifnonnull (pc := 13) (tgt := 18) dX10_faults_13 (by decide) (by first | rfl | exact isRefV_rf _) (fun a_13 c_13 => ?_) (fun c_13 => by cases c_13)
      refine r_aload_n (pc := 18) dX10_faults_18 rfl (by first | rfl | exact isRefV_rf _) ?_
      refine r_getf (pc := 19) dX10_faults_19 fX10_51 (by first | assumption | exact isI.gx (by assumption) | exact isI.gc (by assumption) | exact isW.gx (by assumption) | exact isW.gF (by assumption) | exact isW.gT (by assumption) (by omega) | exact isW.gS (by assumption) (by omega) | exact isW.gK (by assumption) (by omega) | exact isW.g1 (by assumption) | exact isW.g2 (by assumption) | exact isW.g3 (by assumption) | exact isI.gx (isW.i0 (by assumption)) | exact isI.gc (isW.i0 (by assumption)) | exact isI.gx (isW.i1 (by assumption)) | exact isI.gc (isW.i1 (by assumption)) | exact isI.gx (isW.i2 (by assumption)) | exact isI.gc (isW.i2 (by assumption)) | exact isI.gx (isW.i3 (by assumption)) | exact isI.gc (isW.i3 (by assumption)) | exact isI.gx (isW.i4 (by assumption)) | exact isI.gc (isW.i4 (by assumption)) | exact isI.gx (isW.i5 (by assumption)) | exact isI.gc (isW.i5 (by assumption)) | exact isR.gx (by assumption) | exact isRd.gx (by assumption) | exact isSp.gx (by assumption) | exact isI.gx (isR.i (by assumption)) | exact isI.gx (isRd.i (by assumption)) | exact isI.gc (isRd.i (by assumption)) | exact isI.gx (isSp.i (by assumption)) | exact isW.gx (isR.w (by assumption)) | exact isW.gF (isR.w (by assumption)) | exact isK.gx (by assumption) | exact isK.gr (by assumption) | exact isI.gx (isK.row (by assumption) (by omega)) | exact isI.gc (isK.row (by assumption) (by omega)) | fail "no such object") (by rfl) ?_
      refine r_iload_n (pc := 22) dX10_faults_22 rfl ?_
      refine r_callV1 (pc := 23) dX10_faults_23 qX9_faultCount kX10_227 vX9_faultCount (by first | assumption | exact isI.gx (by assumption) | exact isI.gc (by assumption) | exact isW.gx (by assumption) | exact isW.gF (by assumption) | exact isW.gT (by assumption) (by omega) | exact isW.gS (by assumption) (by omega) | exact isW.gK (by assumption) (by omega) | exact isW.g1 (by assumption) | exact isW.g2 (by assumption) | exact isW.g3 (by assumption) | exact isI.gx (isW.i0 (by assumption)) | exact isI.gc (isW.i0 (by assumption)) | exact isI.gx (isW.i1 (by assumption)) | exact isI.gc (isW.i1 (by assumption)) | exact isI.gx (isW.i2 (by assumption)) | exact isI.gc (isW.i2 (by assumption)) | exact isI.gx (isW.i3 (by assumption)) | exact isI.gc (isW.i3 (by assumption)) | exact isI.gx (isW.i4 (by assumption)) | exact isI.gc (isW.i4 (by assumption)) | exact isI.gx (isW.i5 (by assumption)) | exact isI.gc (isW.i5 (by assumption)) | exact isR.gx (by assumption) | exact isRd.gx (by assumption) | exact isSp.gx (by assumption) | exact isI.gx (isR.i (by assumption)) | exact isI.gx (isRd.i (by assumption)) | exact isI.gc (isRd.i (by assumption)) | exact isI.gx (isSp.i (by assumption)) | exact isW.gx (isR.w (by assumption)) | exact isW.gF (isR.w (by assumption)) | exact isK.gx (by assumption) | exact isK.gr (by assumption) | exact isI.gx (isK.row (by assumption) (by omega)) | exact isI.gc (isK.row (by assumption) (by omega)) | fail "no such object") rfl rfl (Nat.le_of_ble_eq_true rfl) (cq_faultCount _ hW hc h11 h12 h13 hcapF h4 (hC 5) ha) (fun v_23 h_23 q_23 => ?_)
      obtain ⟨rfl, rfl⟩ := q_23
      refine r_ireturn (pc := 26) .int dX10_faults_26 rfl (by first | rfl | assumption) ?_
      first | exact ⟨by rw [if_pos (by omega)], rfl⟩ | exact ⟨by rw [if_neg (by omega)], rfl⟩
    · obtain rfl := tkAt_N e_10 q1_10
      refine r_ifnonnull (pc := 13) (tgt := 18) dX10_faults_13 (by decide) (by first | rfl | exact isRefV_rf _) (fun a_13 c_13 => by cases c_13) (fun c_13 => ?_)
      refine rj_iconst (pc := 16) dX10_faults_16 ?_
      refine r_ireturn (pc := 17) .int dX10_faults_17 rfl (by first | rfl | assumption) ?_
      first | exact ⟨by rw [if_pos (by omega)], rfl⟩ | exact ⟨by rw [if_neg (by omega)], rfl⟩
end mg_d1
section mg_d2
/-! ===== the class: still more calls that only ask, on any keeper ===== -/
set_option maxHeartbeats 4000000 in
set_option maxRecDepth 100000 in
theorem kg_scope {G : mG} {l : Launch} (d : Nat) {h : mH} {x : Nat} {kp tk : Option Nat} {zr : Nat → Int} {fr : Nat → Nat → Int} {p e o zt : Int} {ft : Nat → Int} {zs : Int} {fs : Nat → Int} {b za : Int} {fa : Nat → Int} {c : Nat → Int} {C : Nat → Nat → Int} {nm : Nat → Int64} {g : Nat → Option Nat} (hK : isK h x kp tk zr fr p e o zt ft zs fs b za fa c C nm g) (hc : ∀ q, InR (c q)) (hC : ∀ k q, InR (C k q)) (hO : oOk c) {N : Nat} (hN : c 0 = (N : Int)) (hcap : N ≤ 90) {Z : Nat} (hZ : c 10 = (Z : Int)) (hcapZ : Z ≤ 150) {a : Int} (ha : InR a) {i : Int} (hi : InR i) : RUNM G l (d + 9) mX10_scope [.ref x, .int (J a), .int (J i)] h (fun v h' => v = some (.int (J (if inW c 1 60 a then (if i = 0 then c (304 + 3 * a.toNat) else if i = 1 then c (305 + 3 * a.toNat) else if i = 2 then cnt (enB c (C 2) a) Z else if i = 3 then cnt (hwB c a) N else if i = 4 then saL c 60 (ownF c (100 + a)) else if i = 5 then c (306 + 3 * a.toNat) else -1) else -1))) ∧ h' = h) := by
  refine RUNM.of (by decide +kernel) (Nat.le_of_ble_eq_true rfl) ?_
  have hD := hK.d
  have hS := hK.s
  have hR := hK.r
  have hW := hK.w
  refine r_aload_n (pc := 0) dX10_scope_0 rfl (by first | rfl | exact isRefV_rf _) ?_
  refine r_getf (pc := 1) dX10_scope_1 fX10_51 (by first | assumption | exact isI.gx (by assumption) | exact isI.gc (by assumption) | exact isW.gx (by assumption) | exact isW.gF (by assumption) | exact isW.gT (by assumption) (by omega) | exact isW.gS (by assumption) (by omega) | exact isW.gK (by assumption) (by omega) | exact isW.g1 (by assumption) | exact isW.g2 (by assumption) | exact isW.g3 (by assumption) | exact isI.gx (isW.i0 (by assumption)) | exact isI.gc (isW.i0 (by assumption)) | exact isI.gx (isW.i1 (by assumption)) | exact isI.gc (isW.i1 (by assumption)) | exact isI.gx (isW.i2 (by assumption)) | exact isI.gc (isW.i2 (by assumption)) | exact isI.gx (isW.i3 (by assumption)) | exact isI.gc (isW.i3 (by assumption)) | exact isI.gx (isW.i4 (by assumption)) | exact isI.gc (isW.i4 (by assumption)) | exact isI.gx (isW.i5 (by assumption)) | exact isI.gc (isW.i5 (by assumption)) | exact isR.gx (by assumption) | exact isRd.gx (by assumption) | exact isSp.gx (by assumption) | exact isI.gx (isR.i (by assumption)) | exact isI.gx (isRd.i (by assumption)) | exact isI.gc (isRd.i (by assumption)) | exact isI.gx (isSp.i (by assumption)) | exact isW.gx (isR.w (by assumption)) | exact isW.gF (isR.w (by assumption)) | exact isK.gx (by assumption) | exact isK.gr (by assumption) | exact isI.gx (isK.row (by assumption) (by omega)) | exact isI.gc (isK.row (by assumption) (by omega)) | fail "no such object") (by rfl) ?_
  refine r_iload_n (pc := 4) dX10_scope_4 rfl ?_
  refine r_callV1 (pc := 5) dX10_scope_5 qX9_scopeAt kX10_95 vX9_scopeAt (by first | assumption | exact isI.gx (by assumption) | exact isI.gc (by assumption) | exact isW.gx (by assumption) | exact isW.gF (by assumption) | exact isW.gT (by assumption) (by omega) | exact isW.gS (by assumption) (by omega) | exact isW.gK (by assumption) (by omega) | exact isW.g1 (by assumption) | exact isW.g2 (by assumption) | exact isW.g3 (by assumption) | exact isI.gx (isW.i0 (by assumption)) | exact isI.gc (isW.i0 (by assumption)) | exact isI.gx (isW.i1 (by assumption)) | exact isI.gc (isW.i1 (by assumption)) | exact isI.gx (isW.i2 (by assumption)) | exact isI.gc (isW.i2 (by assumption)) | exact isI.gx (isW.i3 (by assumption)) | exact isI.gc (isW.i3 (by assumption)) | exact isI.gx (isW.i4 (by assumption)) | exact isI.gc (isW.i4 (by assumption)) | exact isI.gx (isW.i5 (by assumption)) | exact isI.gc (isW.i5 (by assumption)) | exact isR.gx (by assumption) | exact isRd.gx (by assumption) | exact isSp.gx (by assumption) | exact isI.gx (isR.i (by assumption)) | exact isI.gx (isRd.i (by assumption)) | exact isI.gc (isRd.i (by assumption)) | exact isI.gx (isSp.i (by assumption)) | exact isW.gx (isR.w (by assumption)) | exact isW.gF (isR.w (by assumption)) | exact isK.gx (by assumption) | exact isK.gr (by assumption) | exact isI.gx (isK.row (by assumption) (by omega)) | exact isI.gc (isK.row (by assumption) (by omega)) | fail "no such object") rfl rfl (Nat.le_of_ble_eq_true rfl) (cw_scopeAt _ hW hc ha) (fun v_5 h_5 q_5 => ?_)
  obtain ⟨q1_5, rfl⟩ := q_5
  by_cases e_5 : inW c 1 60 a
  · obtain rfl := scAt_P e_5 q1_5
    refine r_astore_n (pc := 8) dX10_scope_8 (Nat.le_of_ble_eq_true rfl) (by first | rfl | exact isRefV_rf _) ?_
    dsimp only [lsSt, List.set, mLs, mEnt]
    refine r_aload_n (pc := 9) dX10_scope_9 rfl (by first | rfl | exact isRefV_rf _) ?_
    refine r_ifnonnull (pc := 10) (tgt := 15) dX10_scope_10 (by decide) (by first | rfl | exact isRefV_rf _) (fun a_10 c_10 => ?_) (fun c_10 => by cases c_10)
    refine r_iload_n (pc := 15) dX10_scope_15 rfl ?_
    refine rj_tsw (pc := 16) dX10_scope_16 (by first | exact b01_r | exact bz_r | omega | (constructor <;> omega) | apply_assumption | (apply atF_r; assumption) | fail "no range") (by decide) (by decide) (by decide) (fun off_16 tgt_16 ho_16 ht_16 => ?_)
    by_cases e_16_0 : i = 0
    · rw [e_16_0] at ho_16
      obtain rfl : off_16 = 40 := ho_16.symm.trans (by decide)
      obtain rfl : tgt_16 = 56 := by omega
      refine r_aload_n (pc := 56) dX10_scope_56 rfl (by first | rfl | exact isRefV_rf _) ?_
      refine r_getf (pc := 57) dX10_scope_57 fX10_99 (by first | assumption | exact isI.gx (by assumption) | exact isI.gc (by assumption) | exact isW.gx (by assumption) | exact isW.gF (by assumption) | exact isW.gT (by assumption) (by omega) | exact isW.gS (by assumption) (by omega) | exact isW.gK (by assumption) (by omega) | exact isW.g1 (by assumption) | exact isW.g2 (by assumption) | exact isW.g3 (by assumption) | exact isI.gx (isW.i0 (by assumption)) | exact isI.gc (isW.i0 (by assumption)) | exact isI.gx (isW.i1 (by assumption)) | exact isI.gc (isW.i1 (by assumption)) | exact isI.gx (isW.i2 (by assumption)) | exact isI.gc (isW.i2 (by assumption)) | exact isI.gx (isW.i3 (by assumption)) | exact isI.gc (isW.i3 (by assumption)) | exact isI.gx (isW.i4 (by assumption)) | exact isI.gc (isW.i4 (by assumption)) | exact isI.gx (isW.i5 (by assumption)) | exact isI.gc (isW.i5 (by assumption)) | exact isR.gx (by assumption) | exact isRd.gx (by assumption) | exact isSp.gx (by assumption) | exact isI.gx (isR.i (by assumption)) | exact isI.gx (isRd.i (by assumption)) | exact isI.gc (isRd.i (by assumption)) | exact isI.gx (isSp.i (by assumption)) | exact isW.gx (isR.w (by assumption)) | exact isW.gF (isR.w (by assumption)) | exact isK.gx (by assumption) | exact isK.gr (by assumption) | exact isI.gx (isK.row (by assumption) (by omega)) | exact isI.gc (isK.row (by assumption) (by omega)) | fail "no such object") (by rfl) ?_
      refine r_ireturn (pc := 60) .int dX10_scope_60 rfl (by first | rfl | assumption) ?_
      refine ⟨?_, rfl⟩
      (repeat' split) <;> first | rfl | (exfalso; omega)
    by_cases e_16_1 : i = 1
    · rw [e_16_1] at ho_16
      obtain rfl : off_16 = 45 := ho_16.symm.trans (by decide)
      obtain rfl : tgt_16 = 61 := by omega
      refine r_aload_n (pc := 61) dX10_scope_61 rfl (by first | rfl | exact isRefV_rf _) ?_
      refine r_getf (pc := 62) dX10_scope_62 fX10_155 (by first | assumption | exact isI.gx (by assumption) | exact isI.gc (by assumption) | exact isW.gx (by assumption) | exact isW.gF (by assumption) | exact isW.gT (by assumption) (by omega) | exact isW.gS (by assumption) (by omega) | exact isW.gK (by assumption) (by omega) | exact isW.g1 (by assumption) | exact isW.g2 (by assumption) | exact isW.g3 (by assumption) | exact isI.gx (isW.i0 (by assumption)) | exact isI.gc (isW.i0 (by assumption)) | exact isI.gx (isW.i1 (by assumption)) | exact isI.gc (isW.i1 (by assumption)) | exact isI.gx (isW.i2 (by assumption)) | exact isI.gc (isW.i2 (by assumption)) | exact isI.gx (isW.i3 (by assumption)) | exact isI.gc (isW.i3 (by assumption)) | exact isI.gx (isW.i4 (by assumption)) | exact isI.gc (isW.i4 (by assumption)) | exact isI.gx (isW.i5 (by assumption)) | exact isI.gc (isW.i5 (by assumption)) | exact isR.gx (by assumption) | exact isRd.gx (by assumption) | exact isSp.gx (by assumption) | exact isI.gx (isR.i (by assumption)) | exact isI.gx (isRd.i (by assumption)) | exact isI.gc (isRd.i (by assumption)) | exact isI.gx (isSp.i (by assumption)) | exact isW.gx (isR.w (by assumption)) | exact isW.gF (isR.w (by assumption)) | exact isK.gx (by assumption) | exact isK.gr (by assumption) | exact isI.gx (isK.row (by assumption) (by omega)) | exact isI.gc (isK.row (by assumption) (by omega)) | fail "no such object") (by rfl) ?_
      refine r_ireturn (pc := 65) .int dX10_scope_65 rfl (by first | rfl | assumption) ?_
      refine ⟨?_, rfl⟩
      (repeat' split) <;> first | rfl | (exfalso; omega)
    by_cases e_16_2 : i = 2
    · rw [e_16_2] at ho_16
      obtain rfl : off_16 = 50 := ho_16.symm.trans (by decide)
      obtain rfl : tgt_16 = 66 := by omega
      refine r_aload_n (pc := 66) dX10_scope_66 rfl (by first | rfl | exact isRefV_rf _) ?_
      refine r_getf (pc := 67) dX10_scope_67 fX10_51 (by first | assumption | exact isI.gx (by assumption) | exact isI.gc (by assumption) | exact isW.gx (by assumption) | exact isW.gF (by assumption) | exact isW.gT (by assumption) (by omega) | exact isW.gS (by assumption) (by omega) | exact isW.gK (by assumption) (by omega) | exact isW.g1 (by assumption) | exact isW.g2 (by assumption) | exact isW.g3 (by assumption) | exact isI.gx (isW.i0 (by assumption)) | exact isI.gc (isW.i0 (by assumption)) | exact isI.gx (isW.i1 (by assumption)) | exact isI.gc (isW.i1 (by assumption)) | exact isI.gx (isW.i2 (by assumption)) | exact isI.gc (isW.i2 (by assumption)) | exact isI.gx (isW.i3 (by assumption)) | exact isI.gc (isW.i3 (by assumption)) | exact isI.gx (isW.i4 (by assumption)) | exact isI.gc (isW.i4 (by assumption)) | exact isI.gx (isW.i5 (by assumption)) | exact isI.gc (isW.i5 (by assumption)) | exact isR.gx (by assumption) | exact isRd.gx (by assumption) | exact isSp.gx (by assumption) | exact isI.gx (isR.i (by assumption)) | exact isI.gx (isRd.i (by assumption)) | exact isI.gc (isRd.i (by assumption)) | exact isI.gx (isSp.i (by assumption)) | exact isW.gx (isR.w (by assumption)) | exact isW.gF (isR.w (by assumption)) | exact isK.gx (by assumption) | exact isK.gr (by assumption) | exact isI.gx (isK.row (by assumption) (by omega)) | exact isI.gc (isK.row (by assumption) (by omega)) | fail "no such object") (by rfl) ?_
      refine r_iload_n (pc := 70) dX10_scope_70 rfl ?_
      refine r_callV1 (pc := 71) dX10_scope_71 qX9_entriesOf kX10_144 vX9_entriesOf (by first | assumption | exact isI.gx (by assumption) | exact isI.gc (by assumption) | exact isW.gx (by assumption) | exact isW.gF (by assumption) | exact isW.gT (by assumption) (by omega) | exact isW.gS (by assumption) (by omega) | exact isW.gK (by assumption) (by omega) | exact isW.g1 (by assumption) | exact isW.g2 (by assumption) | exact isW.g3 (by assumption) | exact isI.gx (isW.i0 (by assumption)) | exact isI.gc (isW.i0 (by assumption)) | exact isI.gx (isW.i1 (by assumption)) | exact isI.gc (isW.i1 (by assumption)) | exact isI.gx (isW.i2 (by assumption)) | exact isI.gc (isW.i2 (by assumption)) | exact isI.gx (isW.i3 (by assumption)) | exact isI.gc (isW.i3 (by assumption)) | exact isI.gx (isW.i4 (by assumption)) | exact isI.gc (isW.i4 (by assumption)) | exact isI.gx (isW.i5 (by assumption)) | exact isI.gc (isW.i5 (by assumption)) | exact isR.gx (by assumption) | exact isRd.gx (by assumption) | exact isSp.gx (by assumption) | exact isI.gx (isR.i (by assumption)) | exact isI.gx (isRd.i (by assumption)) | exact isI.gc (isRd.i (by assumption)) | exact isI.gx (isSp.i (by assumption)) | exact isW.gx (isR.w (by assumption)) | exact isW.gF (isR.w (by assumption)) | exact isK.gx (by assumption) | exact isK.gr (by assumption) | exact isI.gx (isK.row (by assumption) (by omega)) | exact isI.gc (isK.row (by assumption) (by omega)) | fail "no such object") rfl rfl (Nat.le_of_ble_eq_true rfl) (cq_entriesOf _ hW hc hZ hcapZ (hC 2) ha) (fun v_71 h_71 q_71 => ?_)
      obtain ⟨rfl, rfl⟩ := q_71
      refine r_ireturn (pc := 74) .int dX10_scope_74 rfl (by first | rfl | assumption) ?_
      refine ⟨?_, rfl⟩
      (repeat' split) <;> first | rfl | (exfalso; omega)
    by_cases e_16_3 : i = 3
    · rw [e_16_3] at ho_16
      obtain rfl : off_16 = 59 := ho_16.symm.trans (by decide)
      obtain rfl : tgt_16 = 75 := by omega
      refine r_aload_n (pc := 75) dX10_scope_75 rfl (by first | rfl | exact isRefV_rf _) ?_
      refine r_getf (pc := 76) dX10_scope_76 fX10_51 (by first | assumption | exact isI.gx (by assumption) | exact isI.gc (by assumption) | exact isW.gx (by assumption) | exact isW.gF (by assumption) | exact isW.gT (by assumption) (by omega) | exact isW.gS (by assumption) (by omega) | exact isW.gK (by assumption) (by omega) | exact isW.g1 (by assumption) | exact isW.g2 (by assumption) | exact isW.g3 (by assumption) | exact isI.gx (isW.i0 (by assumption)) | exact isI.gc (isW.i0 (by assumption)) | exact isI.gx (isW.i1 (by assumption)) | exact isI.gc (isW.i1 (by assumption)) | exact isI.gx (isW.i2 (by assumption)) | exact isI.gc (isW.i2 (by assumption)) | exact isI.gx (isW.i3 (by assumption)) | exact isI.gc (isW.i3 (by assumption)) | exact isI.gx (isW.i4 (by assumption)) | exact isI.gc (isW.i4 (by assumption)) | exact isI.gx (isW.i5 (by assumption)) | exact isI.gc (isW.i5 (by assumption)) | exact isR.gx (by assumption) | exact isRd.gx (by assumption) | exact isSp.gx (by assumption) | exact isI.gx (isR.i (by assumption)) | exact isI.gx (isRd.i (by assumption)) | exact isI.gc (isRd.i (by assumption)) | exact isI.gx (isSp.i (by assumption)) | exact isW.gx (isR.w (by assumption)) | exact isW.gF (isR.w (by assumption)) | exact isK.gx (by assumption) | exact isK.gr (by assumption) | exact isI.gx (isK.row (by assumption) (by omega)) | exact isI.gc (isK.row (by assumption) (by omega)) | fail "no such object") (by rfl) ?_
      refine r_iload_n (pc := 79) dX10_scope_79 rfl ?_
      refine r_callV1 (pc := 80) dX10_scope_80 qX9_heldWithin kX10_158 vX9_heldWithin (by first | assumption | exact isI.gx (by assumption) | exact isI.gc (by assumption) | exact isW.gx (by assumption) | exact isW.gF (by assumption) | exact isW.gT (by assumption) (by omega) | exact isW.gS (by assumption) (by omega) | exact isW.gK (by assumption) (by omega) | exact isW.g1 (by assumption) | exact isW.g2 (by assumption) | exact isW.g3 (by assumption) | exact isI.gx (isW.i0 (by assumption)) | exact isI.gc (isW.i0 (by assumption)) | exact isI.gx (isW.i1 (by assumption)) | exact isI.gc (isW.i1 (by assumption)) | exact isI.gx (isW.i2 (by assumption)) | exact isI.gc (isW.i2 (by assumption)) | exact isI.gx (isW.i3 (by assumption)) | exact isI.gc (isW.i3 (by assumption)) | exact isI.gx (isW.i4 (by assumption)) | exact isI.gc (isW.i4 (by assumption)) | exact isI.gx (isW.i5 (by assumption)) | exact isI.gc (isW.i5 (by assumption)) | exact isR.gx (by assumption) | exact isRd.gx (by assumption) | exact isSp.gx (by assumption) | exact isI.gx (isR.i (by assumption)) | exact isI.gx (isRd.i (by assumption)) | exact isI.gc (isRd.i (by assumption)) | exact isI.gx (isSp.i (by assumption)) | exact isW.gx (isR.w (by assumption)) | exact isW.gF (isR.w (by assumption)) | exact isK.gx (by assumption) | exact isK.gr (by assumption) | exact isI.gx (isK.row (by assumption) (by omega)) | exact isI.gc (isK.row (by assumption) (by omega)) | fail "no such object") rfl rfl (Nat.le_of_ble_eq_true rfl) (cq_heldWithin _ hW hc hO hN hcap ha) (fun v_80 h_80 q_80 => ?_)
      obtain ⟨rfl, rfl⟩ := q_80
      refine r_ireturn (pc := 83) .int dX10_scope_83 rfl (by first | rfl | assumption) ?_
      refine ⟨?_, rfl⟩
      (repeat' split) <;> first | rfl | (exfalso; omega)
    by_cases e_16_4 : i = 4
    · rw [e_16_4] at ho_16
      obtain rfl : off_16 = 68 := ho_16.symm.trans (by decide)
      obtain rfl : tgt_16 = 84 := by omega
      refine r_aload_n (pc := 84) dX10_scope_84 rfl (by first | rfl | exact isRefV_rf _) ?_
      refine r_getf (pc := 85) dX10_scope_85 fX10_51 (by first | assumption | exact isI.gx (by assumption) | exact isI.gc (by assumption) | exact isW.gx (by assumption) | exact isW.gF (by assumption) | exact isW.gT (by assumption) (by omega) | exact isW.gS (by assumption) (by omega) | exact isW.gK (by assumption) (by omega) | exact isW.g1 (by assumption) | exact isW.g2 (by assumption) | exact isW.g3 (by assumption) | exact isI.gx (isW.i0 (by assumption)) | exact isI.gc (isW.i0 (by assumption)) | exact isI.gx (isW.i1 (by assumption)) | exact isI.gc (isW.i1 (by assumption)) | exact isI.gx (isW.i2 (by assumption)) | exact isI.gc (isW.i2 (by assumption)) | exact isI.gx (isW.i3 (by assumption)) | exact isI.gc (isW.i3 (by assumption)) | exact isI.gx (isW.i4 (by assumption)) | exact isI.gc (isW.i4 (by assumption)) | exact isI.gx (isW.i5 (by assumption)) | exact isI.gc (isW.i5 (by assumption)) | exact isR.gx (by assumption) | exact isRd.gx (by assumption) | exact isSp.gx (by assumption) | exact isI.gx (isR.i (by assumption)) | exact isI.gx (isRd.i (by assumption)) | exact isI.gc (isRd.i (by assumption)) | exact isI.gx (isSp.i (by assumption)) | exact isW.gx (isR.w (by assumption)) | exact isW.gF (isR.w (by assumption)) | exact isK.gx (by assumption) | exact isK.gr (by assumption) | exact isI.gx (isK.row (by assumption) (by omega)) | exact isI.gc (isK.row (by assumption) (by omega)) | fail "no such object") (by rfl) ?_
      refine r_iload_n (pc := 88) dX10_scope_88 rfl ?_
      refine r_callV1 (pc := 89) dX10_scope_89 qX9_scopesAbove kX10_161 vX9_scopesAbove (by first | assumption | exact isI.gx (by assumption) | exact isI.gc (by assumption) | exact isW.gx (by assumption) | exact isW.gF (by assumption) | exact isW.gT (by assumption) (by omega) | exact isW.gS (by assumption) (by omega) | exact isW.gK (by assumption) (by omega) | exact isW.g1 (by assumption) | exact isW.g2 (by assumption) | exact isW.g3 (by assumption) | exact isI.gx (isW.i0 (by assumption)) | exact isI.gc (isW.i0 (by assumption)) | exact isI.gx (isW.i1 (by assumption)) | exact isI.gc (isW.i1 (by assumption)) | exact isI.gx (isW.i2 (by assumption)) | exact isI.gc (isW.i2 (by assumption)) | exact isI.gx (isW.i3 (by assumption)) | exact isI.gc (isW.i3 (by assumption)) | exact isI.gx (isW.i4 (by assumption)) | exact isI.gc (isW.i4 (by assumption)) | exact isI.gx (isW.i5 (by assumption)) | exact isI.gc (isW.i5 (by assumption)) | exact isR.gx (by assumption) | exact isRd.gx (by assumption) | exact isSp.gx (by assumption) | exact isI.gx (isR.i (by assumption)) | exact isI.gx (isRd.i (by assumption)) | exact isI.gc (isRd.i (by assumption)) | exact isI.gx (isSp.i (by assumption)) | exact isW.gx (isR.w (by assumption)) | exact isW.gF (isR.w (by assumption)) | exact isK.gx (by assumption) | exact isK.gr (by assumption) | exact isI.gx (isK.row (by assumption) (by omega)) | exact isI.gc (isK.row (by assumption) (by omega)) | fail "no such object") rfl rfl (Nat.le_of_ble_eq_true rfl) (cq_scopesAbove _ hW hc hO (i := a) (by omega) (by omega)) (fun v_89 h_89 q_89 => ?_)
      obtain ⟨rfl, rfl⟩ := q_89
      refine r_ireturn (pc := 92) .int dX10_scope_92 rfl (by first | rfl | assumption) ?_
      refine ⟨?_, rfl⟩
      (repeat' split) <;> first | rfl | (exfalso; omega)
    by_cases e_16_5 : i = 5
    · rw [e_16_5] at ho_16
      obtain rfl : off_16 = 77 := ho_16.symm.trans (by decide)
      obtain rfl : tgt_16 = 93 := by omega
      refine r_aload_n (pc := 93) dX10_scope_93 rfl (by first | rfl | exact isRefV_rf _) ?_
      refine r_getf (pc := 94) dX10_scope_94 fX10_164 (by first | assumption | exact isI.gx (by assumption) | exact isI.gc (by assumption) | exact isW.gx (by assumption) | exact isW.gF (by assumption) | exact isW.gT (by assumption) (by omega) | exact isW.gS (by assumption) (by omega) | exact isW.gK (by assumption) (by omega) | exact isW.g1 (by assumption) | exact isW.g2 (by assumption) | exact isW.g3 (by assumption) | exact isI.gx (isW.i0 (by assumption)) | exact isI.gc (isW.i0 (by assumption)) | exact isI.gx (isW.i1 (by assumption)) | exact isI.gc (isW.i1 (by assumption)) | exact isI.gx (isW.i2 (by assumption)) | exact isI.gc (isW.i2 (by assumption)) | exact isI.gx (isW.i3 (by assumption)) | exact isI.gc (isW.i3 (by assumption)) | exact isI.gx (isW.i4 (by assumption)) | exact isI.gc (isW.i4 (by assumption)) | exact isI.gx (isW.i5 (by assumption)) | exact isI.gc (isW.i5 (by assumption)) | exact isR.gx (by assumption) | exact isRd.gx (by assumption) | exact isSp.gx (by assumption) | exact isI.gx (isR.i (by assumption)) | exact isI.gx (isRd.i (by assumption)) | exact isI.gc (isRd.i (by assumption)) | exact isI.gx (isSp.i (by assumption)) | exact isW.gx (isR.w (by assumption)) | exact isW.gF (isR.w (by assumption)) | exact isK.gx (by assumption) | exact isK.gr (by assumption) | exact isI.gx (isK.row (by assumption) (by omega)) | exact isI.gc (isK.row (by assumption) (by omega)) | fail "no such object") (by rfl) ?_
      refine r_ireturn (pc := 97) .int dX10_scope_97 rfl (by first | rfl | assumption) ?_
      refine ⟨?_, rfl⟩
      (repeat' split) <;> first | rfl | (exfalso; omega)
    have eo_16 : off_16 = 82 := by
      rw [← ho_16]
      unfold tswOff
      rw [if_pos (by omega)]
    obtain rfl : tgt_16 = 98 := by omega
    refine rj_iconst (pc := 98) dX10_scope_98 ?_
    refine r_ireturn (pc := 99) .int dX10_scope_99 rfl (by first | rfl | assumption) ?_
    refine ⟨?_, rfl⟩
    (repeat' split) <;> first | rfl | (exfalso; omega)
  · obtain rfl := scAt_N e_5 q1_5
    refine r_astore_n (pc := 8) dX10_scope_8 (Nat.le_of_ble_eq_true rfl) (by first | rfl | exact isRefV_rf _) ?_
    dsimp only [lsSt, List.set, mLs, mEnt]
    refine r_aload_n (pc := 9) dX10_scope_9 rfl (by first | rfl | exact isRefV_rf _) ?_
    refine r_ifnonnull (pc := 10) (tgt := 15) dX10_scope_10 (by decide) (by first | rfl | exact isRefV_rf _) (fun a_10 c_10 => by cases c_10) (fun c_10 => ?_)
    refine rj_iconst (pc := 13) dX10_scope_13 ?_
    refine r_ireturn (pc := 14) .int dX10_scope_14 rfl (by first | rfl | assumption) ?_
    refine ⟨?_, rfl⟩
    (repeat' split) <;> first | rfl | (exfalso; omega)
set_option maxHeartbeats 4000000 in
set_option maxRecDepth 100000 in
theorem kg_paper {G : mG} {l : Launch} (d : Nat) {h : mH} {x : Nat} {kp tk : Option Nat} {zr : Nat → Int} {fr : Nat → Nat → Int} {p e o zt : Int} {ft : Nat → Int} {zs : Int} {fs : Nat → Int} {b za : Int} {fa : Nat → Int} {c : Nat → Int} {C : Nat → Nat → Int} {nm : Nat → Int64} {g : Nat → Option Nat} (hK : isK h x kp tk zr fr p e o zt ft zs fs b za fa c C nm g) (hc : ∀ q, InR (c q)) (hC : ∀ k q, InR (C k q)) (hzs : InR zs) {a : Int} (ha : InR a) : RUNM G l (d + 9) mX10_paper [.ref x, .int (J a)] h (fun v h' => v = some (.int (J (if inI 120 zs a then fs a.toNat else -1))) ∧ h' = h) := by
  refine RUNM.of (by decide +kernel) (Nat.le_of_ble_eq_true rfl) ?_
  have hD := hK.d
  have hS := hK.s
  have hR := hK.r
  have hW := hK.w
  refine r_aload_n (pc := 0) dX10_paper_0 rfl (by first | rfl | exact isRefV_rf _) ?_
  refine r_getf (pc := 1) dX10_paper_1 fX10_33 (by first | assumption | exact isI.gx (by assumption) | exact isI.gc (by assumption) | exact isW.gx (by assumption) | exact isW.gF (by assumption) | exact isW.gT (by assumption) (by omega) | exact isW.gS (by assumption) (by omega) | exact isW.gK (by assumption) (by omega) | exact isW.g1 (by assumption) | exact isW.g2 (by assumption) | exact isW.g3 (by assumption) | exact isI.gx (isW.i0 (by assumption)) | exact isI.gc (isW.i0 (by assumption)) | exact isI.gx (isW.i1 (by assumption)) | exact isI.gc (isW.i1 (by assumption)) | exact isI.gx (isW.i2 (by assumption)) | exact isI.gc (isW.i2 (by assumption)) | exact isI.gx (isW.i3 (by assumption)) | exact isI.gc (isW.i3 (by assumption)) | exact isI.gx (isW.i4 (by assumption)) | exact isI.gc (isW.i4 (by assumption)) | exact isI.gx (isW.i5 (by assumption)) | exact isI.gc (isW.i5 (by assumption)) | exact isR.gx (by assumption) | exact isRd.gx (by assumption) | exact isSp.gx (by assumption) | exact isI.gx (isR.i (by assumption)) | exact isI.gx (isRd.i (by assumption)) | exact isI.gc (isRd.i (by assumption)) | exact isI.gx (isSp.i (by assumption)) | exact isW.gx (isR.w (by assumption)) | exact isW.gF (isR.w (by assumption)) | exact isK.gx (by assumption) | exact isK.gr (by assumption) | exact isI.gx (isK.row (by assumption) (by omega)) | exact isI.gc (isK.row (by assumption) (by omega)) | fail "no such object") (by rfl) ?_
  refine r_iload_n (pc := 4) dX10_paper_4 rfl ?_
  refine r_callV1 (pc := 5) dX10_paper_5 qX1_has kX10_88 vX1_has (by first | assumption | exact isI.gx (by assumption) | exact isI.gc (by assumption) | exact isW.gx (by assumption) | exact isW.gF (by assumption) | exact isW.gT (by assumption) (by omega) | exact isW.gS (by assumption) (by omega) | exact isW.gK (by assumption) (by omega) | exact isW.g1 (by assumption) | exact isW.g2 (by assumption) | exact isW.g3 (by assumption) | exact isI.gx (isW.i0 (by assumption)) | exact isI.gc (isW.i0 (by assumption)) | exact isI.gx (isW.i1 (by assumption)) | exact isI.gc (isW.i1 (by assumption)) | exact isI.gx (isW.i2 (by assumption)) | exact isI.gc (isW.i2 (by assumption)) | exact isI.gx (isW.i3 (by assumption)) | exact isI.gc (isW.i3 (by assumption)) | exact isI.gx (isW.i4 (by assumption)) | exact isI.gc (isW.i4 (by assumption)) | exact isI.gx (isW.i5 (by assumption)) | exact isI.gc (isW.i5 (by assumption)) | exact isR.gx (by assumption) | exact isRd.gx (by assumption) | exact isSp.gx (by assumption) | exact isI.gx (isR.i (by assumption)) | exact isI.gx (isRd.i (by assumption)) | exact isI.gc (isRd.i (by assumption)) | exact isI.gx (isSp.i (by assumption)) | exact isW.gx (isR.w (by assumption)) | exact isW.gF (isR.w (by assumption)) | exact isK.gx (by assumption) | exact isK.gr (by assumption) | exact isI.gx (isK.row (by assumption) (by omega)) | exact isI.gc (isK.row (by assumption) (by omega)) | fail "no such object") rfl rfl (Nat.le_of_ble_eq_true rfl) (ci_has _ hS.i (by decide) hzs ha) (fun v_5 h_5 q_5 => ?_)
  obtain ⟨rfl, rfl⟩ := q_5
  refine rj_if_eq (pc := 8) (tgt := 22) dX10_paper_8 (by decide) (by first | exact b01_r | exact bz_r | omega | (constructor <;> omega) | apply_assumption | (apply atF_r; assumption) | fail "no range") (fun c_8 => ?_) (fun c_8 => ?_)
  · try simp only [b01_0, bz_0, Classical.not_not] at c_8
    refine rj_iconst (pc := 22) dX10_paper_22 ?_
    refine r_ireturn (pc := 23) .int dX10_paper_23 rfl (by first | rfl | assumption) ?_
    first | exact ⟨by rw [if_neg (by omega)], rfl⟩ | exact ⟨by rw [if_pos (by omega)]; unfold atF; rw [if_pos (by omega)], rfl⟩
  · try simp only [b01_0, bz_0, Classical.not_not] at c_8
    refine r_aload_n (pc := 11) dX10_paper_11 rfl (by first | rfl | exact isRefV_rf _) ?_
    refine r_getf (pc := 12) dX10_paper_12 fX10_33 (by first | assumption | exact isI.gx (by assumption) | exact isI.gc (by assumption) | exact isW.gx (by assumption) | exact isW.gF (by assumption) | exact isW.gT (by assumption) (by omega) | exact isW.gS (by assumption) (by omega) | exact isW.gK (by assumption) (by omega) | exact isW.g1 (by assumption) | exact isW.g2 (by assumption) | exact isW.g3 (by assumption) | exact isI.gx (isW.i0 (by assumption)) | exact isI.gc (isW.i0 (by assumption)) | exact isI.gx (isW.i1 (by assumption)) | exact isI.gc (isW.i1 (by assumption)) | exact isI.gx (isW.i2 (by assumption)) | exact isI.gc (isW.i2 (by assumption)) | exact isI.gx (isW.i3 (by assumption)) | exact isI.gc (isW.i3 (by assumption)) | exact isI.gx (isW.i4 (by assumption)) | exact isI.gc (isW.i4 (by assumption)) | exact isI.gx (isW.i5 (by assumption)) | exact isI.gc (isW.i5 (by assumption)) | exact isR.gx (by assumption) | exact isRd.gx (by assumption) | exact isSp.gx (by assumption) | exact isI.gx (isR.i (by assumption)) | exact isI.gx (isRd.i (by assumption)) | exact isI.gc (isRd.i (by assumption)) | exact isI.gx (isSp.i (by assumption)) | exact isW.gx (isR.w (by assumption)) | exact isW.gF (isR.w (by assumption)) | exact isK.gx (by assumption) | exact isK.gr (by assumption) | exact isI.gx (isK.row (by assumption) (by omega)) | exact isI.gc (isK.row (by assumption) (by omega)) | fail "no such object") (by rfl) ?_
    refine r_iload_n (pc := 15) dX10_paper_15 rfl ?_
    refine r_callV1 (pc := 16) dX10_paper_16 qX1_at kX10_91 vX1_at (by first | assumption | exact isI.gx (by assumption) | exact isI.gc (by assumption) | exact isW.gx (by assumption) | exact isW.gF (by assumption) | exact isW.gT (by assumption) (by omega) | exact isW.gS (by assumption) (by omega) | exact isW.gK (by assumption) (by omega) | exact isW.g1 (by assumption) | exact isW.g2 (by assumption) | exact isW.g3 (by assumption) | exact isI.gx (isW.i0 (by assumption)) | exact isI.gc (isW.i0 (by assumption)) | exact isI.gx (isW.i1 (by assumption)) | exact isI.gc (isW.i1 (by assumption)) | exact isI.gx (isW.i2 (by assumption)) | exact isI.gc (isW.i2 (by assumption)) | exact isI.gx (isW.i3 (by assumption)) | exact isI.gc (isW.i3 (by assumption)) | exact isI.gx (isW.i4 (by assumption)) | exact isI.gc (isW.i4 (by assumption)) | exact isI.gx (isW.i5 (by assumption)) | exact isI.gc (isW.i5 (by assumption)) | exact isR.gx (by assumption) | exact isRd.gx (by assumption) | exact isSp.gx (by assumption) | exact isI.gx (isR.i (by assumption)) | exact isI.gx (isRd.i (by assumption)) | exact isI.gc (isRd.i (by assumption)) | exact isI.gx (isSp.i (by assumption)) | exact isW.gx (isR.w (by assumption)) | exact isW.gF (isR.w (by assumption)) | exact isK.gx (by assumption) | exact isK.gr (by assumption) | exact isI.gx (isK.row (by assumption) (by omega)) | exact isI.gc (isK.row (by assumption) (by omega)) | fail "no such object") rfl rfl (Nat.le_of_ble_eq_true rfl) (ci_at _ hS.i (by decide) hzs ha) (fun v_16 h_16 q_16 => ?_)
    obtain ⟨rfl, rfl⟩ := q_16
    refine r_goto (pc := 19) (tgt := 23) dX10_paper_19 (by decide) ?_
    refine r_ireturn (pc := 23) .int dX10_paper_23 rfl (by first | rfl | assumption) ?_
    first | exact ⟨by rw [if_neg (by omega)], rfl⟩ | exact ⟨by rw [if_pos (by omega)]; unfold atF; rw [if_pos (by omega)], rfl⟩
set_option maxHeartbeats 4000000 in
set_option maxRecDepth 100000 in
theorem kg_fault {G : mG} {l : Launch} (d : Nat) {h : mH} {x : Nat} {kp tk : Option Nat} {zr : Nat → Int} {fr : Nat → Nat → Int} {p e o zt : Int} {ft : Nat → Int} {zs : Int} {fs : Nat → Int} {b za : Int} {fa : Nat → Int} {c : Nat → Int} {C : Nat → Nat → Int} {nm : Nat → Int64} {g : Nat → Option Nat} (hK : isK h x kp tk zr fr p e o zt ft zs fs b za fa c C nm g) (hc : ∀ q, InR (c q)) (hC : ∀ k q, InR (C k q)) {F : Nat} (h11 : c 11 = (F : Int)) (h12 : c 12 = (F : Int)) (h13 : c 13 = (F : Int)) (hcapF : F ≤ 90) (h4 : 0 ≤ c 4 ∧ c 4 ≤ (F : Int)) {a : Int} (ha : InR a) {i : Int} (hi : InR i) {u : Int} (hu : InR u) : RUNM G l (d + 10) mX10_fault [.ref x, .int (J a), .int (J i), .int (J u)] h (fun v h' => v = some (.int (J (if (0 ≤ i ∧ i < (if a = -1 ∨ inW c 2 10 a then fcF c (C 5) F a else -1)) ∧ (u = 0 ∨ u = 1) then (if u = 0 then fnF c (C 5) (C 3) F a i else fgF c (C 5) (C 4) F a i) else -1))) ∧ h' = h) := by
  refine RUNM.of (by decide +kernel) (Nat.le_of_ble_eq_true rfl) ?_
  have hD := hK.d
  have hS := hK.s
  have hR := hK.r
  have hW := hK.w
  refine r_iload_n (pc := 0) dX10_fault_0 rfl ?_
  refine rj_if_lt (pc := 1) (tgt := 22) dX10_fault_1 (by decide) (by first | exact b01_r | exact bz_r | omega | (constructor <;> omega) | apply_assumption | (apply atF_r; assumption) | fail "no range") (fun c_1 => ?_) (fun c_1 => ?_)
  · refine rj_iconst (pc := 22) dX10_fault_22 ?_
    refine r_ireturn (pc := 23) .int dX10_fault_23 rfl (by first | rfl | assumption) ?_
    refine ⟨?_, rfl⟩
    first | (rw [if_neg (fun z => by omega)]; done) | (rw [if_pos ⟨⟨by omega, by omega⟩, by omega⟩, if_pos (by omega)]; done) | (rw [if_pos ⟨⟨by omega, by omega⟩, by omega⟩, if_neg (by omega)]; done)
  · refine r_iload_n (pc := 4) dX10_fault_4 rfl ?_
    refine r_aload_n (pc := 5) dX10_fault_5 rfl (by first | rfl | exact isRefV_rf _) ?_
    refine r_iload_n (pc := 6) dX10_fault_6 rfl ?_
    refine r_callV1 (pc := 7) dX10_fault_7 qX10_faults kX10_234 vX10_faults (by first | assumption | exact isI.gx (by assumption) | exact isI.gc (by assumption) | exact isW.gx (by assumption) | exact isW.gF (by assumption) | exact isW.gT (by assumption) (by omega) | exact isW.gS (by assumption) (by omega) | exact isW.gK (by assumption) (by omega) | exact isW.g1 (by assumption) | exact isW.g2 (by assumption) | exact isW.g3 (by assumption) | exact isI.gx (isW.i0 (by assumption)) | exact isI.gc (isW.i0 (by assumption)) | exact isI.gx (isW.i1 (by assumption)) | exact isI.gc (isW.i1 (by assumption)) | exact isI.gx (isW.i2 (by assumption)) | exact isI.gc (isW.i2 (by assumption)) | exact isI.gx (isW.i3 (by assumption)) | exact isI.gc (isW.i3 (by assumption)) | exact isI.gx (isW.i4 (by assumption)) | exact isI.gc (isW.i4 (by assumption)) | exact isI.gx (isW.i5 (by assumption)) | exact isI.gc (isW.i5 (by assumption)) | exact isR.gx (by assumption) | exact isRd.gx (by assumption) | exact isSp.gx (by assumption) | exact isI.gx (isR.i (by assumption)) | exact isI.gx (isRd.i (by assumption)) | exact isI.gc (isRd.i (by assumption)) | exact isI.gx (isSp.i (by assumption)) | exact isW.gx (isR.w (by assumption)) | exact isW.gF (isR.w (by assumption)) | exact isK.gx (by assumption) | exact isK.gr (by assumption) | exact isI.gx (isK.row (by assumption) (by omega)) | exact isI.gc (isK.row (by assumption) (by omega)) | fail "no such object") rfl rfl (Nat.le_of_ble_eq_true rfl) (kg_faults _ hK hc hC h11 h12 h13 hcapF h4 ha) (fun v_7 h_7 q_7 => ?_)
    obtain ⟨rfl, rfl⟩ := q_7
    have fr7 : InR (if a = -1 ∨ inW c 2 10 a then fcF c (C 5) F a else -1) := by have z := fcF_r (c := c) (f := C 5) (F := F) (i := a); split <;> exact ⟨by omega, by omega⟩
    refine rj_icmp_ge (pc := 10) (tgt := 22) dX10_fault_10 (by decide) (by first | exact b01_r | exact bz_r | omega | (constructor <;> omega) | apply_assumption | (apply atF_r; assumption) | fail "no range") (by first | exact b01_r | exact bz_r | omega | (constructor <;> omega) | apply_assumption | (apply atF_r; assumption) | fail "no range") (fun c_10 => ?_) (fun c_10 => ?_)
    · refine rj_iconst (pc := 22) dX10_fault_22 ?_
      refine r_ireturn (pc := 23) .int dX10_fault_23 rfl (by first | rfl | assumption) ?_
      refine ⟨?_, rfl⟩
      first | (rw [if_neg (fun z => by omega)]; done) | (rw [if_pos ⟨⟨by omega, by omega⟩, by omega⟩, if_pos (by omega)]; done) | (rw [if_pos ⟨⟨by omega, by omega⟩, by omega⟩, if_neg (by omega)]; done)
    · refine r_iload_n (pc := 13) dX10_fault_13 rfl ?_
      refine rj_if_lt (pc := 14) (tgt := 22) dX10_fault_14 (by decide) (by first | exact b01_r | exact bz_r | omega | (constructor <;> omega) | apply_assumption | (apply atF_r; assumption) | fail "no range") (fun c_14 => ?_) (fun c_14 => ?_)
      · refine rj_iconst (pc := 22) dX10_fault_22 ?_
        refine r_ireturn (pc := 23) .int dX10_fault_23 rfl (by first | rfl | assumption) ?_
        refine ⟨?_, rfl⟩
        first | (rw [if_neg (fun z => by omega)]; done) | (rw [if_pos ⟨⟨by omega, by omega⟩, by omega⟩, if_pos (by omega)]; done) | (rw [if_pos ⟨⟨by omega, by omega⟩, by omega⟩, if_neg (by omega)]; done)
      · refine r_iload_n (pc := 17) dX10_fault_17 rfl ?_
        refine rj_iconst (pc := 18) dX10_fault_18 ?_
        refine rj_icmp_le (pc := 19) (tgt := 24) dX10_fault_19 (by decide) (by first | exact b01_r | exact bz_r | omega | (constructor <;> omega) | apply_assumption | (apply atF_r; assumption) | fail "no range") (by first | exact b01_r | exact bz_r | omega | (constructor <;> omega) | apply_assumption | (apply atF_r; assumption) | fail "no range") (fun c_19 => ?_) (fun c_19 => ?_)
        · refine r_iload_n (pc := 24) dX10_fault_24 rfl ?_
          refine rj_if_ne (pc := 25) (tgt := 40) dX10_fault_25 (by decide) (by first | exact b01_r | exact bz_r | omega | (constructor <;> omega) | apply_assumption | (apply atF_r; assumption) | fail "no range") (fun c_25 => ?_) (fun c_25 => ?_)
          · try simp only [b01_0, bz_0, Classical.not_not] at c_25
            refine r_aload_n (pc := 40) dX10_fault_40 rfl (by first | rfl | exact isRefV_rf _) ?_
            refine r_getf (pc := 41) dX10_fault_41 fX10_51 (by first | assumption | exact isI.gx (by assumption) | exact isI.gc (by assumption) | exact isW.gx (by assumption) | exact isW.gF (by assumption) | exact isW.gT (by assumption) (by omega) | exact isW.gS (by assumption) (by omega) | exact isW.gK (by assumption) (by omega) | exact isW.g1 (by assumption) | exact isW.g2 (by assumption) | exact isW.g3 (by assumption) | exact isI.gx (isW.i0 (by assumption)) | exact isI.gc (isW.i0 (by assumption)) | exact isI.gx (isW.i1 (by assumption)) | exact isI.gc (isW.i1 (by assumption)) | exact isI.gx (isW.i2 (by assumption)) | exact isI.gc (isW.i2 (by assumption)) | exact isI.gx (isW.i3 (by assumption)) | exact isI.gc (isW.i3 (by assumption)) | exact isI.gx (isW.i4 (by assumption)) | exact isI.gc (isW.i4 (by assumption)) | exact isI.gx (isW.i5 (by assumption)) | exact isI.gc (isW.i5 (by assumption)) | exact isR.gx (by assumption) | exact isRd.gx (by assumption) | exact isSp.gx (by assumption) | exact isI.gx (isR.i (by assumption)) | exact isI.gx (isRd.i (by assumption)) | exact isI.gc (isRd.i (by assumption)) | exact isI.gx (isSp.i (by assumption)) | exact isW.gx (isR.w (by assumption)) | exact isW.gF (isR.w (by assumption)) | exact isK.gx (by assumption) | exact isK.gr (by assumption) | exact isI.gx (isK.row (by assumption) (by omega)) | exact isI.gc (isK.row (by assumption) (by omega)) | fail "no such object") (by rfl) ?_
            refine r_iload_n (pc := 44) dX10_fault_44 rfl ?_
            refine r_iload_n (pc := 45) dX10_fault_45 rfl ?_
            refine r_callV2 (pc := 46) dX10_fault_46 qX9_faultThing kX10_215 vX9_faultThing (by first | assumption | exact isI.gx (by assumption) | exact isI.gc (by assumption) | exact isW.gx (by assumption) | exact isW.gF (by assumption) | exact isW.gT (by assumption) (by omega) | exact isW.gS (by assumption) (by omega) | exact isW.gK (by assumption) (by omega) | exact isW.g1 (by assumption) | exact isW.g2 (by assumption) | exact isW.g3 (by assumption) | exact isI.gx (isW.i0 (by assumption)) | exact isI.gc (isW.i0 (by assumption)) | exact isI.gx (isW.i1 (by assumption)) | exact isI.gc (isW.i1 (by assumption)) | exact isI.gx (isW.i2 (by assumption)) | exact isI.gc (isW.i2 (by assumption)) | exact isI.gx (isW.i3 (by assumption)) | exact isI.gc (isW.i3 (by assumption)) | exact isI.gx (isW.i4 (by assumption)) | exact isI.gc (isW.i4 (by assumption)) | exact isI.gx (isW.i5 (by assumption)) | exact isI.gc (isW.i5 (by assumption)) | exact isR.gx (by assumption) | exact isRd.gx (by assumption) | exact isSp.gx (by assumption) | exact isI.gx (isR.i (by assumption)) | exact isI.gx (isRd.i (by assumption)) | exact isI.gc (isRd.i (by assumption)) | exact isI.gx (isSp.i (by assumption)) | exact isW.gx (isR.w (by assumption)) | exact isW.gF (isR.w (by assumption)) | exact isK.gx (by assumption) | exact isK.gr (by assumption) | exact isI.gx (isK.row (by assumption) (by omega)) | exact isI.gc (isK.row (by assumption) (by omega)) | fail "no such object") rfl rfl (Nat.le_of_ble_eq_true rfl) (cq_faultThing _ hW hc h11 h12 h13 hcapF h4 (hC 5) ha hi (by omega)) (fun v_46 h_46 q_46 => ?_)
            obtain ⟨rfl, rfl⟩ := q_46
            refine r_ireturn (pc := 49) .int dX10_fault_49 rfl (by first | rfl | assumption) ?_
            refine ⟨?_, rfl⟩
            first | (rw [if_neg (fun z => by omega)]; done) | (rw [if_pos ⟨⟨by omega, by omega⟩, by omega⟩, if_pos (by omega)]; done) | (rw [if_pos ⟨⟨by omega, by omega⟩, by omega⟩, if_neg (by omega)]; done)
          · try simp only [b01_0, bz_0, Classical.not_not] at c_25
            refine r_aload_n (pc := 28) dX10_fault_28 rfl (by first | rfl | exact isRefV_rf _) ?_
            refine r_getf (pc := 29) dX10_fault_29 fX10_51 (by first | assumption | exact isI.gx (by assumption) | exact isI.gc (by assumption) | exact isW.gx (by assumption) | exact isW.gF (by assumption) | exact isW.gT (by assumption) (by omega) | exact isW.gS (by assumption) (by omega) | exact isW.gK (by assumption) (by omega) | exact isW.g1 (by assumption) | exact isW.g2 (by assumption) | exact isW.g3 (by assumption) | exact isI.gx (isW.i0 (by assumption)) | exact isI.gc (isW.i0 (by assumption)) | exact isI.gx (isW.i1 (by assumption)) | exact isI.gc (isW.i1 (by assumption)) | exact isI.gx (isW.i2 (by assumption)) | exact isI.gc (isW.i2 (by assumption)) | exact isI.gx (isW.i3 (by assumption)) | exact isI.gc (isW.i3 (by assumption)) | exact isI.gx (isW.i4 (by assumption)) | exact isI.gc (isW.i4 (by assumption)) | exact isI.gx (isW.i5 (by assumption)) | exact isI.gc (isW.i5 (by assumption)) | exact isR.gx (by assumption) | exact isRd.gx (by assumption) | exact isSp.gx (by assumption) | exact isI.gx (isR.i (by assumption)) | exact isI.gx (isRd.i (by assumption)) | exact isI.gc (isRd.i (by assumption)) | exact isI.gx (isSp.i (by assumption)) | exact isW.gx (isR.w (by assumption)) | exact isW.gF (isR.w (by assumption)) | exact isK.gx (by assumption) | exact isK.gr (by assumption) | exact isI.gx (isK.row (by assumption) (by omega)) | exact isI.gc (isK.row (by assumption) (by omega)) | fail "no such object") (by rfl) ?_
            refine r_iload_n (pc := 32) dX10_fault_32 rfl ?_
            refine r_iload_n (pc := 33) dX10_fault_33 rfl ?_
            refine r_callV2 (pc := 34) dX10_fault_34 qX9_faultNumber kX10_212 vX9_faultNumber (by first | assumption | exact isI.gx (by assumption) | exact isI.gc (by assumption) | exact isW.gx (by assumption) | exact isW.gF (by assumption) | exact isW.gT (by assumption) (by omega) | exact isW.gS (by assumption) (by omega) | exact isW.gK (by assumption) (by omega) | exact isW.g1 (by assumption) | exact isW.g2 (by assumption) | exact isW.g3 (by assumption) | exact isI.gx (isW.i0 (by assumption)) | exact isI.gc (isW.i0 (by assumption)) | exact isI.gx (isW.i1 (by assumption)) | exact isI.gc (isW.i1 (by assumption)) | exact isI.gx (isW.i2 (by assumption)) | exact isI.gc (isW.i2 (by assumption)) | exact isI.gx (isW.i3 (by assumption)) | exact isI.gc (isW.i3 (by assumption)) | exact isI.gx (isW.i4 (by assumption)) | exact isI.gc (isW.i4 (by assumption)) | exact isI.gx (isW.i5 (by assumption)) | exact isI.gc (isW.i5 (by assumption)) | exact isR.gx (by assumption) | exact isRd.gx (by assumption) | exact isSp.gx (by assumption) | exact isI.gx (isR.i (by assumption)) | exact isI.gx (isRd.i (by assumption)) | exact isI.gc (isRd.i (by assumption)) | exact isI.gx (isSp.i (by assumption)) | exact isW.gx (isR.w (by assumption)) | exact isW.gF (isR.w (by assumption)) | exact isK.gx (by assumption) | exact isK.gr (by assumption) | exact isI.gx (isK.row (by assumption) (by omega)) | exact isI.gc (isK.row (by assumption) (by omega)) | fail "no such object") rfl rfl (Nat.le_of_ble_eq_true rfl) (cq_faultNumber _ hW hc h11 h12 h13 hcapF h4 (hC 5) ha hi (by omega)) (fun v_34 h_34 q_34 => ?_)
            obtain ⟨rfl, rfl⟩ := q_34
            refine r_goto (pc := 37) (tgt := 49) dX10_fault_37 (by decide) ?_
            refine r_ireturn (pc := 49) .int dX10_fault_49 rfl (by first | rfl | assumption) ?_
            refine ⟨?_, rfl⟩
            first | (rw [if_neg (fun z => by omega)]; done) | (rw [if_pos ⟨⟨by omega, by omega⟩, by omega⟩, if_pos (by omega)]; done) | (rw [if_pos ⟨⟨by omega, by omega⟩, by omega⟩, if_neg (by omega)]; done)
        · refine rj_iconst (pc := 22) dX10_fault_22 ?_
          refine r_ireturn (pc := 23) .int dX10_fault_23 rfl (by first | rfl | assumption) ?_
          refine ⟨?_, rfl⟩
          first | (rw [if_neg (fun z => by omega)]; done) | (rw [if_pos ⟨⟨by omega, by omega⟩, by omega⟩, if_pos (by omega)]; done) | (rw [if_pos ⟨⟨by omega, by omega⟩, by omega⟩, if_neg (by omega)]; done)
set_option maxHeartbeats 4000000 in
set_option maxRecDepth 100000 in
theorem kg_name {G : mG} {l : Launch} (d : Nat) {h : mH} {x : Nat} {kp tk : Option Nat} {zr : Nat → Int} {fr : Nat → Nat → Int} {p e o zt : Int} {ft : Nat → Int} {zs : Int} {fs : Nat → Int} {b za : Int} {fa : Nat → Int} {c : Nat → Int} {C : Nat → Nat → Int} {nm : Nat → Int64} {g : Nat → Option Nat} (hK : isK h x kp tk zr fr p e o zt ft zs fs b za fa c C nm g) (hc : ∀ q, InR (c q)) (hC : ∀ k q, InR (C k q)) {a : Int} (ha : InR a) {i : Int} (hi : InR i) : RUNM G l (d + 9) mX10_name [.ref x, .int (J a), .int (J i)] h (fun v h' => v = some (.int (J (if inW c 0 90 a then (if i = -1 then lnL (nm a.toNat) 7 0 else if letV (nm a.toNat) i = 0 then -1 else letV (nm a.toNat) i) else -1))) ∧ h' = h) := by
  refine RUNM.of (by decide +kernel) (Nat.le_of_ble_eq_true rfl) ?_
  have hD := hK.d
  have hS := hK.s
  have hR := hK.r
  have hW := hK.w
  refine r_aload_n (pc := 0) dX10_name_0 rfl (by first | rfl | exact isRefV_rf _) ?_
  refine r_getf (pc := 1) dX10_name_1 fX10_51 (by first | assumption | exact isI.gx (by assumption) | exact isI.gc (by assumption) | exact isW.gx (by assumption) | exact isW.gF (by assumption) | exact isW.gT (by assumption) (by omega) | exact isW.gS (by assumption) (by omega) | exact isW.gK (by assumption) (by omega) | exact isW.g1 (by assumption) | exact isW.g2 (by assumption) | exact isW.g3 (by assumption) | exact isI.gx (isW.i0 (by assumption)) | exact isI.gc (isW.i0 (by assumption)) | exact isI.gx (isW.i1 (by assumption)) | exact isI.gc (isW.i1 (by assumption)) | exact isI.gx (isW.i2 (by assumption)) | exact isI.gc (isW.i2 (by assumption)) | exact isI.gx (isW.i3 (by assumption)) | exact isI.gc (isW.i3 (by assumption)) | exact isI.gx (isW.i4 (by assumption)) | exact isI.gc (isW.i4 (by assumption)) | exact isI.gx (isW.i5 (by assumption)) | exact isI.gc (isW.i5 (by assumption)) | exact isR.gx (by assumption) | exact isRd.gx (by assumption) | exact isSp.gx (by assumption) | exact isI.gx (isR.i (by assumption)) | exact isI.gx (isRd.i (by assumption)) | exact isI.gc (isRd.i (by assumption)) | exact isI.gx (isSp.i (by assumption)) | exact isW.gx (isR.w (by assumption)) | exact isW.gF (isR.w (by assumption)) | exact isK.gx (by assumption) | exact isK.gr (by assumption) | exact isI.gx (isK.row (by assumption) (by omega)) | exact isI.gc (isK.row (by assumption) (by omega)) | fail "no such object") (by rfl) ?_
  refine r_iload_n (pc := 4) dX10_name_4 rfl ?_
  refine r_callV1 (pc := 5) dX10_name_5 qX9_thingAt kX10_63 vX9_thingAt (by first | assumption | exact isI.gx (by assumption) | exact isI.gc (by assumption) | exact isW.gx (by assumption) | exact isW.gF (by assumption) | exact isW.gT (by assumption) (by omega) | exact isW.gS (by assumption) (by omega) | exact isW.gK (by assumption) (by omega) | exact isW.g1 (by assumption) | exact isW.g2 (by assumption) | exact isW.g3 (by assumption) | exact isI.gx (isW.i0 (by assumption)) | exact isI.gc (isW.i0 (by assumption)) | exact isI.gx (isW.i1 (by assumption)) | exact isI.gc (isW.i1 (by assumption)) | exact isI.gx (isW.i2 (by assumption)) | exact isI.gc (isW.i2 (by assumption)) | exact isI.gx (isW.i3 (by assumption)) | exact isI.gc (isW.i3 (by assumption)) | exact isI.gx (isW.i4 (by assumption)) | exact isI.gc (isW.i4 (by assumption)) | exact isI.gx (isW.i5 (by assumption)) | exact isI.gc (isW.i5 (by assumption)) | exact isR.gx (by assumption) | exact isRd.gx (by assumption) | exact isSp.gx (by assumption) | exact isI.gx (isR.i (by assumption)) | exact isI.gx (isRd.i (by assumption)) | exact isI.gc (isRd.i (by assumption)) | exact isI.gx (isSp.i (by assumption)) | exact isW.gx (isR.w (by assumption)) | exact isW.gF (isR.w (by assumption)) | exact isK.gx (by assumption) | exact isK.gr (by assumption) | exact isI.gx (isK.row (by assumption) (by omega)) | exact isI.gc (isK.row (by assumption) (by omega)) | fail "no such object") rfl rfl (Nat.le_of_ble_eq_true rfl) (cw_thingAt _ hW hc ha) (fun v_5 h_5 q_5 => ?_)
  obtain ⟨q1_5, rfl⟩ := q_5
  by_cases e_5 : inW c 0 90 a
  · obtain rfl := thAt_P e_5 q1_5
    refine r_astore_n (pc := 8) dX10_name_8 (Nat.le_of_ble_eq_true rfl) (by first | rfl | exact isRefV_rf _) ?_
    dsimp only [lsSt, List.set, mLs, mEnt]
    refine r_aload_n (pc := 9) dX10_name_9 rfl (by first | rfl | exact isRefV_rf _) ?_
    refine r_ifnonnull (pc := 10) (tgt := 15) dX10_name_10 (by decide) (by first | rfl | exact isRefV_rf _) (fun a_10 c_10 => ?_) (fun c_10 => by cases c_10)
    refine r_iload_n (pc := 15) dX10_name_15 rfl ?_
    refine rj_iconst (pc := 16) dX10_name_16 ?_
    refine rj_icmp_ne (pc := 17) (tgt := 28) dX10_name_17 (by decide) (by first | exact b01_r | exact bz_r | omega | (constructor <;> omega) | apply_assumption | (apply atF_r; assumption) | fail "no range") (by first | exact b01_r | exact bz_r | omega | (constructor <;> omega) | apply_assumption | (apply atF_r; assumption) | fail "no range") (fun c_17 => ?_) (fun c_17 => ?_)
    · refine r_aload_n (pc := 28) dX10_name_28 rfl (by first | rfl | exact isRefV_rf _) ?_
      refine r_getf (pc := 29) dX10_name_29 fX10_186 (by first | assumption | exact isI.gx (by assumption) | exact isI.gc (by assumption) | exact isW.gx (by assumption) | exact isW.gF (by assumption) | exact isW.gT (by assumption) (by omega) | exact isW.gS (by assumption) (by omega) | exact isW.gK (by assumption) (by omega) | exact isW.g1 (by assumption) | exact isW.g2 (by assumption) | exact isW.g3 (by assumption) | exact isI.gx (isW.i0 (by assumption)) | exact isI.gc (isW.i0 (by assumption)) | exact isI.gx (isW.i1 (by assumption)) | exact isI.gc (isW.i1 (by assumption)) | exact isI.gx (isW.i2 (by assumption)) | exact isI.gc (isW.i2 (by assumption)) | exact isI.gx (isW.i3 (by assumption)) | exact isI.gc (isW.i3 (by assumption)) | exact isI.gx (isW.i4 (by assumption)) | exact isI.gc (isW.i4 (by assumption)) | exact isI.gx (isW.i5 (by assumption)) | exact isI.gc (isW.i5 (by assumption)) | exact isR.gx (by assumption) | exact isRd.gx (by assumption) | exact isSp.gx (by assumption) | exact isI.gx (isR.i (by assumption)) | exact isI.gx (isRd.i (by assumption)) | exact isI.gc (isRd.i (by assumption)) | exact isI.gx (isSp.i (by assumption)) | exact isW.gx (isR.w (by assumption)) | exact isW.gF (isR.w (by assumption)) | exact isK.gx (by assumption) | exact isK.gr (by assumption) | exact isI.gx (isK.row (by assumption) (by omega)) | exact isI.gc (isK.row (by assumption) (by omega)) | fail "no such object") (by rfl) ?_
      refine r_iload_n (pc := 32) dX10_name_32 rfl ?_
      refine r_callS2 (pc := 33) dX10_name_33 qX10_letterOf kX10_190 sX10_letterOf (Nat.le_of_ble_eq_true rfl) (cz_letterOf _ (y := nm a.toNat) hi) (fun v_33 h_33 q_33 => ?_)
      obtain ⟨rfl, rfl⟩ := q_33
      have rl := letV_r (nm a.toNat) i
      refine r_istore (pc := 36) dX10_name_36 (Nat.le_of_ble_eq_true rfl) ?_
      dsimp only [lsSt, List.set, mLs, mEnt]
      refine r_iload (pc := 38) dX10_name_38 rfl ?_
      refine rj_if_ne (pc := 40) (tgt := 47) dX10_name_40 (by decide) (by first | exact b01_r | exact bz_r | omega | (constructor <;> omega) | apply_assumption | (apply atF_r; assumption) | fail "no range") (fun c_40 => ?_) (fun c_40 => ?_)
      · try simp only [b01_0, bz_0, Classical.not_not] at c_40
        refine r_iload (pc := 47) dX10_name_47 rfl ?_
        refine r_ireturn (pc := 49) .int dX10_name_49 rfl (by first | rfl | assumption) ?_
        refine ⟨?_, rfl⟩
        first | (rw [if_neg (by assumption)]; done) | (rw [if_pos (by assumption), if_pos (by omega)]; done) | (rw [if_pos (by assumption), if_neg (by omega), if_pos (by assumption)]; done) | (rw [if_pos (by assumption), if_neg (by omega), if_neg (by assumption)]; done)
      · try simp only [b01_0, bz_0, Classical.not_not] at c_40
        refine rj_iconst (pc := 43) dX10_name_43 ?_
        refine r_goto (pc := 44) (tgt := 49) dX10_name_44 (by decide) ?_
        refine r_ireturn (pc := 49) .int dX10_name_49 rfl (by first | rfl | assumption) ?_
        refine ⟨?_, rfl⟩
        first | (rw [if_neg (by assumption)]; done) | (rw [if_pos (by assumption), if_pos (by omega)]; done) | (rw [if_pos (by assumption), if_neg (by omega), if_pos (by assumption)]; done) | (rw [if_pos (by assumption), if_neg (by omega), if_neg (by assumption)]; done)
    · refine r_aload_n (pc := 20) dX10_name_20 rfl (by first | rfl | exact isRefV_rf _) ?_
      refine r_getf (pc := 21) dX10_name_21 fX10_186 (by first | assumption | exact isI.gx (by assumption) | exact isI.gc (by assumption) | exact isW.gx (by assumption) | exact isW.gF (by assumption) | exact isW.gT (by assumption) (by omega) | exact isW.gS (by assumption) (by omega) | exact isW.gK (by assumption) (by omega) | exact isW.g1 (by assumption) | exact isW.g2 (by assumption) | exact isW.g3 (by assumption) | exact isI.gx (isW.i0 (by assumption)) | exact isI.gc (isW.i0 (by assumption)) | exact isI.gx (isW.i1 (by assumption)) | exact isI.gc (isW.i1 (by assumption)) | exact isI.gx (isW.i2 (by assumption)) | exact isI.gc (isW.i2 (by assumption)) | exact isI.gx (isW.i3 (by assumption)) | exact isI.gc (isW.i3 (by assumption)) | exact isI.gx (isW.i4 (by assumption)) | exact isI.gc (isW.i4 (by assumption)) | exact isI.gx (isW.i5 (by assumption)) | exact isI.gc (isW.i5 (by assumption)) | exact isR.gx (by assumption) | exact isRd.gx (by assumption) | exact isSp.gx (by assumption) | exact isI.gx (isR.i (by assumption)) | exact isI.gx (isRd.i (by assumption)) | exact isI.gc (isRd.i (by assumption)) | exact isI.gx (isSp.i (by assumption)) | exact isW.gx (isR.w (by assumption)) | exact isW.gF (isR.w (by assumption)) | exact isK.gx (by assumption) | exact isK.gr (by assumption) | exact isI.gx (isK.row (by assumption) (by omega)) | exact isI.gc (isK.row (by assumption) (by omega)) | fail "no such object") (by rfl) ?_
      refine r_callS1 (pc := 24) dX10_name_24 qX10_lettersOf kX10_187 sX10_lettersOf (Nat.le_of_ble_eq_true rfl) (cz_lettersOf _ (y := nm a.toNat)) (fun v_24 h_24 q_24 => ?_)
      obtain ⟨rfl, rfl⟩ := q_24
      refine r_ireturn (pc := 27) .int dX10_name_27 rfl (by first | rfl | assumption) ?_
      refine ⟨?_, rfl⟩
      first | (rw [if_neg (by assumption)]; done) | (rw [if_pos (by assumption), if_pos (by omega)]; done) | (rw [if_pos (by assumption), if_neg (by omega), if_pos (by assumption)]; done) | (rw [if_pos (by assumption), if_neg (by omega), if_neg (by assumption)]; done)
  · obtain rfl := thAt_N e_5 q1_5
    refine r_astore_n (pc := 8) dX10_name_8 (Nat.le_of_ble_eq_true rfl) (by first | rfl | exact isRefV_rf _) ?_
    dsimp only [lsSt, List.set, mLs, mEnt]
    refine r_aload_n (pc := 9) dX10_name_9 rfl (by first | rfl | exact isRefV_rf _) ?_
    refine r_ifnonnull (pc := 10) (tgt := 15) dX10_name_10 (by decide) (by first | rfl | exact isRefV_rf _) (fun a_10 c_10 => by cases c_10) (fun c_10 => ?_)
    refine rj_iconst (pc := 13) dX10_name_13 ?_
    refine r_ireturn (pc := 14) .int dX10_name_14 rfl (by first | rfl | assumption) ?_
    refine ⟨?_, rfl⟩
    first | (rw [if_neg (by assumption)]; done) | (rw [if_pos (by assumption), if_pos (by omega)]; done) | (rw [if_pos (by assumption), if_neg (by omega), if_pos (by assumption)]; done) | (rw [if_pos (by assumption), if_neg (by omega), if_neg (by assumption)]; done)
end mg_d2
section mg_d3
/-! ===== what changes in a keeper ===== -/
section KU
variable {h h' : mH} {x : Nat} {kp tk : Option Nat} {zr : Nat → Int} {fr : Nat → Nat → Int} {p e o zt : Int} {ft : Nat → Int} {zs : Int} {fs : Nat → Int} {b za : Int} {fa : Nat → Int} {c : Nat → Int} {C : Nat → Nat → Int} {nm : Nat → Int64} {g : Nat → Option Nat}
theorem isK.ofR (k : isK h x kp tk zr fr p e o zt ft zs fs b za fa c C nm g) (S : Same (rBlk (kA x 8)) h h') {b' za' : Int} {fa' c' : Nat → Int} {C' : Nat → Nat → Int} {nm' : Nat → Int64} {g' : Nat → Option Nat} (r : isR h' (kA x 8) b' za' fa' c' C' nm' g') : isK h' x kp tk zr fr p e o zt ft zs fs b' za' fa' c' C' nm' g' := by
  have n : ∀ q, ¬ rBlk (kA x 8) q → hGet h' q = hGet h q := S.2.2.2
  exact ⟨by rw [S.1]; exact k.lo, (n _ (by unfold rBlk kA; omega)).trans k.gx, k.d.keep2 S.1 (fun q hq => n q (by unfold dBlk kA at hq; unfold rBlk kA; omega)), k.s.keep2 S.1 (fun q hq => n q (by unfold dBlk kA at hq; unfold rBlk kA; omega)), (n _ (by unfold rBlk kA; omega)).trans k.gr, r, fun q hq => (k.row hq).keep2 S.1 (fun q2 hq2 => n q2 (by unfold iBlk kR at hq2; unfold rBlk kA; omega))⟩
theorem isK.ofD (k : isK h x kp tk zr fr p e o zt ft zs fs b za fa c C nm g) (S : Same (dBlk (kA x 1)) h h') {p' e' o' zt' : Int} {ft' : Nat → Int} (r : isRd h' (kA x 1) p' e' o' zt' ft') : isK h' x kp tk zr fr p' e' o' zt' ft' zs fs b za fa c C nm g := by
  have n : ∀ q, ¬ dBlk (kA x 1) q → hGet h' q = hGet h q := S.2.2.2
  exact ⟨by rw [S.1]; exact k.lo, (n _ (by unfold dBlk kA; omega)).trans k.gx, r, k.s.keep2 S.1 (fun q hq => n q (by unfold dBlk kA at hq; unfold dBlk kA; omega)), (n _ (by unfold dBlk kA; omega)).trans k.gr, k.r.keep2 S.1 (fun q hq => n q (by unfold rBlk kA at hq; unfold dBlk kA; omega)), fun q hq => (k.row hq).keep2 S.1 (fun q2 hq2 => n q2 (by unfold iBlk kR at hq2; unfold dBlk kA; omega))⟩
theorem isK.ofS (k : isK h x kp tk zr fr p e o zt ft zs fs b za fa c C nm g) (S : Same (dBlk (kA x 4)) h h') {zs' : Int} {fs' : Nat → Int} (r : isSp h' (kA x 4) zs' fs') : isK h' x kp tk zr fr p e o zt ft zs' fs' b za fa c C nm g := by
  have n : ∀ q, ¬ dBlk (kA x 4) q → hGet h' q = hGet h q := S.2.2.2
  exact ⟨by rw [S.1]; exact k.lo, (n _ (by unfold dBlk kA; omega)).trans k.gx, k.d.keep2 S.1 (fun q hq => n q (by unfold dBlk kA at hq; unfold dBlk kA; omega)), r, (n _ (by unfold dBlk kA; omega)).trans k.gr, k.r.keep2 S.1 (fun q hq => n q (by unfold rBlk kA at hq; unfold dBlk kA; omega)), fun q hq => (k.row hq).keep2 S.1 (fun q2 hq2 => n q2 (by unfold iBlk kR at hq2; unfold dBlk kA; omega))⟩
theorem isK.ofRow (k : isK h x kp tk zr fr p e o zt ft zs fs b za fa c C nm g) {a : Nat} (ha : a < 4) (S : Same (iBlk (kR x a)) h h') {z : Int} {f : Nat → Int} (r : isI h' (kR x a) 40 z f) : isK h' x kp tk (updI zr a z) (updC fr a f) p e o zt ft zs fs b za fa c C nm g := by
  have n : ∀ q, ¬ iBlk (kR x a) q → hGet h' q = hGet h q := S.2.2.2
  refine ⟨by rw [S.1]; exact k.lo, (n _ (by unfold iBlk kR; omega)).trans k.gx, k.d.keep2 S.1 (fun q hq => n q (by unfold dBlk kA at hq; unfold iBlk kR; omega)), k.s.keep2 S.1 (fun q hq => n q (by unfold dBlk kA at hq; unfold iBlk kR; omega)), (n _ (by unfold iBlk kR kA; omega)).trans k.gr, k.r.keep2 S.1 (fun q hq => n q (by unfold rBlk kA at hq; unfold iBlk kR; omega)), fun q hq => ?_⟩
  by_cases w : q = a
  · subst w; rw [updI_s, updC_s]; exact r
  · rw [updI_n w, updC_n w]
    exact (k.row hq).keep2 S.1 (fun q2 hq2 => n q2 (by unfold iBlk kR at hq2; unfold iBlk kR; omega))
theorem isK.ofW (k : isK h x kp tk zr fr p e o zt ft zs fs b za fa c C nm g) (S : Same (wBlk (rA (kA x 8) 1)) h h') {c' : Nat → Int} {C' : Nat → Nat → Int} {nm' : Nat → Int64} {g' : Nat → Option Nat} (w : isW h' (rA (kA x 8) 1) c' C' nm' g') : isK h' x kp tk zr fr p e o zt ft zs fs b za fa c' C' nm' g' :=
  k.ofR (S.mono (fun q hq => by unfold wBlk rA at hq; unfold rBlk; omega)) (k.r.ofW S w)
theorem same_kr {x : Nat} {h h' : mH} (S : Same (rBlk (kA x 8)) h h') : Same (kBlk x) h h' := S.mono (fun q hq => by unfold rBlk kA at hq; unfold kBlk; omega)
theorem same_kd {x : Nat} {h h' : mH} (S : Same (dBlk (kA x 1)) h h') : Same (kBlk x) h h' := S.mono (fun q hq => by unfold dBlk kA at hq; unfold kBlk; omega)
theorem same_ks {x : Nat} {h h' : mH} (S : Same (dBlk (kA x 4)) h h') : Same (kBlk x) h h' := S.mono (fun q hq => by unfold dBlk kA at hq; unfold kBlk; omega)
theorem same_kw {x : Nat} {h h' : mH} (S : Same (wBlk (rA (kA x 8) 1)) h h') : Same (kBlk x) h h' := S.mono (fun q hq => by unfold wBlk rA kA at hq; unfold kBlk; omega)
theorem same_ki {x a : Nat} (ha : a < 4) {h h' : mH} (S : Same (iBlk (kR x a)) h h') : Same (kBlk x) h h' := S.mono (fun q hq => by unfold iBlk kR at hq; unfold kBlk; omega)
end KU
end mg_d3
section mg_d4
/-! ===== the class: calls that end things, turns, on any keeper ===== -/
set_option maxHeartbeats 4000000 in
set_option maxRecDepth 100000 in
theorem kg_close {G : mG} {l : Launch} (d : Nat) {h : mH} {x : Nat} {kp tk : Option Nat} {zr : Nat → Int} {fr : Nat → Nat → Int} {p e o zt : Int} {ft : Nat → Int} {zs : Int} {fs : Nat → Int} {b za : Int} {fa : Nat → Int} {c : Nat → Int} {C : Nat → Nat → Int} {nm : Nat → Int64} {g : Nat → Option Nat} (hK : isK h x kp tk zr fr p e o zt ft zs fs b za fa c C nm g) (hc : ∀ q, InR (c q)) (hC : ∀ k q, InR (C k q)) {a : Int} (ha : InR a) {r1 : Int} {R : mH → Prop} (hr1 : InR r1) (P : inW c 0 90 a → c (32 + 3 * a.toNat) = 0 → RUNM G l (d + 13) mX3_endInCall [.ref (kA x 8), .int (J a)] h (fun v h' => v = some (.int (J r1)) ∧ R h')) : RUNM G l (d + 14) mX10_close [.ref x, .int (J a)] h (fun v h' => (¬ inW c 0 90 a ∧ v = some (.int (J (-1))) ∧ h' = h) ∨ (inW c 0 90 a ∧ ¬ c (32 + 3 * a.toNat) = 0 ∧ v = some (.int (J (-3))) ∧ h' = h) ∨ (inW c 0 90 a ∧ c (32 + 3 * a.toNat) = 0 ∧ v = some (.int (J r1)) ∧ R h')) := by
  refine RUNM.of (by decide +kernel) (Nat.le_of_ble_eq_true rfl) ?_
  have hD := hK.d
  have hS := hK.s
  have hR := hK.r
  have hW := hK.w
  refine r_aload_n (pc := 0) dX10_close_0 rfl (by first | rfl | exact isRefV_rf _) ?_
  refine r_getf (pc := 1) dX10_close_1 fX10_51 (by first | assumption | exact isI.gx (by assumption) | exact isI.gc (by assumption) | exact isW.gx (by assumption) | exact isW.gF (by assumption) | exact isW.gT (by assumption) (by omega) | exact isW.gS (by assumption) (by omega) | exact isW.gK (by assumption) (by omega) | exact isW.g1 (by assumption) | exact isW.g2 (by assumption) | exact isW.g3 (by assumption) | exact isI.gx (isW.i0 (by assumption)) | exact isI.gc (isW.i0 (by assumption)) | exact isI.gx (isW.i1 (by assumption)) | exact isI.gc (isW.i1 (by assumption)) | exact isI.gx (isW.i2 (by assumption)) | exact isI.gc (isW.i2 (by assumption)) | exact isI.gx (isW.i3 (by assumption)) | exact isI.gc (isW.i3 (by assumption)) | exact isI.gx (isW.i4 (by assumption)) | exact isI.gc (isW.i4 (by assumption)) | exact isI.gx (isW.i5 (by assumption)) | exact isI.gc (isW.i5 (by assumption)) | exact isR.gx (by assumption) | exact isRd.gx (by assumption) | exact isSp.gx (by assumption) | exact isI.gx (isR.i (by assumption)) | exact isI.gx (isRd.i (by assumption)) | exact isI.gc (isRd.i (by assumption)) | exact isI.gx (isSp.i (by assumption)) | exact isW.gx (isR.w (by assumption)) | exact isW.gF (isR.w (by assumption)) | exact isK.gx (by assumption) | exact isK.gr (by assumption) | exact isI.gx (isK.row (by assumption) (by omega)) | exact isI.gc (isK.row (by assumption) (by omega)) | fail "no such object") (by rfl) ?_
  refine r_iload_n (pc := 4) dX10_close_4 rfl ?_
  refine r_callV1 (pc := 5) dX10_close_5 qX9_thingAt kX10_63 vX9_thingAt (by first | assumption | exact isI.gx (by assumption) | exact isI.gc (by assumption) | exact isW.gx (by assumption) | exact isW.gF (by assumption) | exact isW.gT (by assumption) (by omega) | exact isW.gS (by assumption) (by omega) | exact isW.gK (by assumption) (by omega) | exact isW.g1 (by assumption) | exact isW.g2 (by assumption) | exact isW.g3 (by assumption) | exact isI.gx (isW.i0 (by assumption)) | exact isI.gc (isW.i0 (by assumption)) | exact isI.gx (isW.i1 (by assumption)) | exact isI.gc (isW.i1 (by assumption)) | exact isI.gx (isW.i2 (by assumption)) | exact isI.gc (isW.i2 (by assumption)) | exact isI.gx (isW.i3 (by assumption)) | exact isI.gc (isW.i3 (by assumption)) | exact isI.gx (isW.i4 (by assumption)) | exact isI.gc (isW.i4 (by assumption)) | exact isI.gx (isW.i5 (by assumption)) | exact isI.gc (isW.i5 (by assumption)) | exact isR.gx (by assumption) | exact isRd.gx (by assumption) | exact isSp.gx (by assumption) | exact isI.gx (isR.i (by assumption)) | exact isI.gx (isRd.i (by assumption)) | exact isI.gc (isRd.i (by assumption)) | exact isI.gx (isSp.i (by assumption)) | exact isW.gx (isR.w (by assumption)) | exact isW.gF (isR.w (by assumption)) | exact isK.gx (by assumption) | exact isK.gr (by assumption) | exact isI.gx (isK.row (by assumption) (by omega)) | exact isI.gc (isK.row (by assumption) (by omega)) | fail "no such object") rfl rfl (Nat.le_of_ble_eq_true rfl) (cw_thingAt _ hW hc ha) (fun v_5 h_5 q_5 => ?_)
  obtain ⟨q1_5, rfl⟩ := q_5
  by_cases e_5 : inW c 0 90 a
  · obtain rfl := thAt_P e_5 q1_5
    refine r_astore_n (pc := 8) dX10_close_8 (Nat.le_of_ble_eq_true rfl) (by first | rfl | exact isRefV_rf _) ?_
    dsimp only [lsSt, List.set, mLs, mEnt]
    refine r_aload_n (pc := 9) dX10_close_9 rfl (by first | rfl | exact isRefV_rf _) ?_
    refine r_ifnonnull (pc := 10) (tgt := 15) dX10_close_10 (by decide) (by first | rfl | exact isRefV_rf _) (fun a_10 c_10 => ?_) (fun c_10 => by cases c_10)
    refine r_aload_n (pc := 15) dX10_close_15 rfl (by first | rfl | exact isRefV_rf _) ?_
    refine r_getf (pc := 16) dX10_close_16 fX10_136 (by first | assumption | exact isI.gx (by assumption) | exact isI.gc (by assumption) | exact isW.gx (by assumption) | exact isW.gF (by assumption) | exact isW.gT (by assumption) (by omega) | exact isW.gS (by assumption) (by omega) | exact isW.gK (by assumption) (by omega) | exact isW.g1 (by assumption) | exact isW.g2 (by assumption) | exact isW.g3 (by assumption) | exact isI.gx (isW.i0 (by assumption)) | exact isI.gc (isW.i0 (by assumption)) | exact isI.gx (isW.i1 (by assumption)) | exact isI.gc (isW.i1 (by assumption)) | exact isI.gx (isW.i2 (by assumption)) | exact isI.gc (isW.i2 (by assumption)) | exact isI.gx (isW.i3 (by assumption)) | exact isI.gc (isW.i3 (by assumption)) | exact isI.gx (isW.i4 (by assumption)) | exact isI.gc (isW.i4 (by assumption)) | exact isI.gx (isW.i5 (by assumption)) | exact isI.gc (isW.i5 (by assumption)) | exact isR.gx (by assumption) | exact isRd.gx (by assumption) | exact isSp.gx (by assumption) | exact isI.gx (isR.i (by assumption)) | exact isI.gx (isRd.i (by assumption)) | exact isI.gc (isRd.i (by assumption)) | exact isI.gx (isSp.i (by assumption)) | exact isW.gx (isR.w (by assumption)) | exact isW.gF (isR.w (by assumption)) | exact isK.gx (by assumption) | exact isK.gr (by assumption) | exact isI.gx (isK.row (by assumption) (by omega)) | exact isI.gc (isK.row (by assumption) (by omega)) | fail "no such object") (by rfl) ?_
    refine rj_if_eq (pc := 19) (tgt := 27) dX10_close_19 (by decide) (by first | exact b01_r | exact bz_r | omega | (constructor <;> omega) | apply_assumption | (apply atF_r; assumption) | fail "no range") (fun c_19 => ?_) (fun c_19 => ?_)
    · try simp only [b01_0, bz_0, Classical.not_not] at c_19
      refine r_aload_n (pc := 27) dX10_close_27 rfl (by first | rfl | exact isRefV_rf _) ?_
      refine r_getf (pc := 28) dX10_close_28 fX10_43 (by first | assumption | exact isI.gx (by assumption) | exact isI.gc (by assumption) | exact isW.gx (by assumption) | exact isW.gF (by assumption) | exact isW.gT (by assumption) (by omega) | exact isW.gS (by assumption) (by omega) | exact isW.gK (by assumption) (by omega) | exact isW.g1 (by assumption) | exact isW.g2 (by assumption) | exact isW.g3 (by assumption) | exact isI.gx (isW.i0 (by assumption)) | exact isI.gc (isW.i0 (by assumption)) | exact isI.gx (isW.i1 (by assumption)) | exact isI.gc (isW.i1 (by assumption)) | exact isI.gx (isW.i2 (by assumption)) | exact isI.gc (isW.i2 (by assumption)) | exact isI.gx (isW.i3 (by assumption)) | exact isI.gc (isW.i3 (by assumption)) | exact isI.gx (isW.i4 (by assumption)) | exact isI.gc (isW.i4 (by assumption)) | exact isI.gx (isW.i5 (by assumption)) | exact isI.gc (isW.i5 (by assumption)) | exact isR.gx (by assumption) | exact isRd.gx (by assumption) | exact isSp.gx (by assumption) | exact isI.gx (isR.i (by assumption)) | exact isI.gx (isRd.i (by assumption)) | exact isI.gc (isRd.i (by assumption)) | exact isI.gx (isSp.i (by assumption)) | exact isW.gx (isR.w (by assumption)) | exact isW.gF (isR.w (by assumption)) | exact isK.gx (by assumption) | exact isK.gr (by assumption) | exact isI.gx (isK.row (by assumption) (by omega)) | exact isI.gc (isK.row (by assumption) (by omega)) | fail "no such object") (by rfl) ?_
      refine r_iload_n (pc := 31) dX10_close_31 rfl ?_
      refine r_callV1 (pc := 32) dX10_close_32 qX3_endInCall kX10_137 vX3_endInCall (by first | assumption | exact isI.gx (by assumption) | exact isI.gc (by assumption) | exact isW.gx (by assumption) | exact isW.gF (by assumption) | exact isW.gT (by assumption) (by omega) | exact isW.gS (by assumption) (by omega) | exact isW.gK (by assumption) (by omega) | exact isW.g1 (by assumption) | exact isW.g2 (by assumption) | exact isW.g3 (by assumption) | exact isI.gx (isW.i0 (by assumption)) | exact isI.gc (isW.i0 (by assumption)) | exact isI.gx (isW.i1 (by assumption)) | exact isI.gc (isW.i1 (by assumption)) | exact isI.gx (isW.i2 (by assumption)) | exact isI.gc (isW.i2 (by assumption)) | exact isI.gx (isW.i3 (by assumption)) | exact isI.gc (isW.i3 (by assumption)) | exact isI.gx (isW.i4 (by assumption)) | exact isI.gc (isW.i4 (by assumption)) | exact isI.gx (isW.i5 (by assumption)) | exact isI.gc (isW.i5 (by assumption)) | exact isR.gx (by assumption) | exact isRd.gx (by assumption) | exact isSp.gx (by assumption) | exact isI.gx (isR.i (by assumption)) | exact isI.gx (isRd.i (by assumption)) | exact isI.gc (isRd.i (by assumption)) | exact isI.gx (isSp.i (by assumption)) | exact isW.gx (isR.w (by assumption)) | exact isW.gF (isR.w (by assumption)) | exact isK.gx (by assumption) | exact isK.gr (by assumption) | exact isI.gx (isK.row (by assumption) (by omega)) | exact isI.gc (isK.row (by assumption) (by omega)) | fail "no such object") rfl rfl (Nat.le_of_ble_eq_true rfl) (P e_5 (by assumption)) (fun v_32 h_32 q_32 => ?_)
      obtain ⟨rfl, R_32⟩ := q_32
      refine r_ireturn (pc := 35) .int dX10_close_35 rfl (by first | rfl | assumption) ?_
      first | exact Or.inl ⟨by assumption, rfl, rfl⟩ | exact Or.inr (Or.inl ⟨by assumption, by assumption, rfl, rfl⟩) | exact Or.inr (Or.inr ⟨by assumption, by assumption, rfl, by assumption⟩)
    · try simp only [b01_0, bz_0, Classical.not_not] at c_19
      refine rj_bipush (pc := 22) dX10_close_22 (by decide +kernel) ?_
      refine r_goto (pc := 24) (tgt := 35) dX10_close_24 (by decide) ?_
      refine r_ireturn (pc := 35) .int dX10_close_35 rfl (by first | rfl | assumption) ?_
      first | exact Or.inl ⟨by assumption, rfl, rfl⟩ | exact Or.inr (Or.inl ⟨by assumption, by assumption, rfl, rfl⟩) | exact Or.inr (Or.inr ⟨by assumption, by assumption, rfl, by assumption⟩)
  · obtain rfl := thAt_N e_5 q1_5
    refine r_astore_n (pc := 8) dX10_close_8 (Nat.le_of_ble_eq_true rfl) (by first | rfl | exact isRefV_rf _) ?_
    dsimp only [lsSt, List.set, mLs, mEnt]
    refine r_aload_n (pc := 9) dX10_close_9 rfl (by first | rfl | exact isRefV_rf _) ?_
    refine r_ifnonnull (pc := 10) (tgt := 15) dX10_close_10 (by decide) (by first | rfl | exact isRefV_rf _) (fun a_10 c_10 => by cases c_10) (fun c_10 => ?_)
    refine rj_iconst (pc := 13) dX10_close_13 ?_
    refine r_ireturn (pc := 14) .int dX10_close_14 rfl (by first | rfl | assumption) ?_
    first | exact Or.inl ⟨by assumption, rfl, rfl⟩ | exact Or.inr (Or.inl ⟨by assumption, by assumption, rfl, rfl⟩) | exact Or.inr (Or.inr ⟨by assumption, by assumption, rfl, by assumption⟩)
set_option maxHeartbeats 4000000 in
set_option maxRecDepth 100000 in
theorem kg_shut {G : mG} {l : Launch} (d : Nat) {h : mH} {x : Nat} {kp tk : Option Nat} {zr : Nat → Int} {fr : Nat → Nat → Int} {p e o zt : Int} {ft : Nat → Int} {zs : Int} {fs : Nat → Int} {b za : Int} {fa : Nat → Int} {c : Nat → Int} {C : Nat → Nat → Int} {nm : Nat → Int64} {g : Nat → Option Nat} (hK : isK h x kp tk zr fr p e o zt ft zs fs b za fa c C nm g) (hc : ∀ q, InR (c q)) (hC : ∀ k q, InR (C k q)) {a : Int} (ha : InR a) {r1 : Int} {R : mH → Prop} (hr1 : InR r1) (P : inW c 1 60 a → c (304 + 3 * a.toNat) = 0 → RUNM G l (d + 13) mX3_endInCall [.ref (kA x 8), .int (J (100 + a))] h (fun v h' => v = some (.int (J r1)) ∧ R h')) : RUNM G l (d + 14) mX10_shut [.ref x, .int (J a)] h (fun v h' => (¬ inW c 1 60 a ∧ v = some (.int (J (-1))) ∧ h' = h) ∨ (inW c 1 60 a ∧ ¬ c (304 + 3 * a.toNat) = 0 ∧ v = some (.int (J (-3))) ∧ h' = h) ∨ (inW c 1 60 a ∧ c (304 + 3 * a.toNat) = 0 ∧ v = some (.int (J r1)) ∧ R h')) := by
  refine RUNM.of (by decide +kernel) (Nat.le_of_ble_eq_true rfl) ?_
  have hD := hK.d
  have hS := hK.s
  have hR := hK.r
  have hW := hK.w
  refine r_aload_n (pc := 0) dX10_shut_0 rfl (by first | rfl | exact isRefV_rf _) ?_
  refine r_getf (pc := 1) dX10_shut_1 fX10_51 (by first | assumption | exact isI.gx (by assumption) | exact isI.gc (by assumption) | exact isW.gx (by assumption) | exact isW.gF (by assumption) | exact isW.gT (by assumption) (by omega) | exact isW.gS (by assumption) (by omega) | exact isW.gK (by assumption) (by omega) | exact isW.g1 (by assumption) | exact isW.g2 (by assumption) | exact isW.g3 (by assumption) | exact isI.gx (isW.i0 (by assumption)) | exact isI.gc (isW.i0 (by assumption)) | exact isI.gx (isW.i1 (by assumption)) | exact isI.gc (isW.i1 (by assumption)) | exact isI.gx (isW.i2 (by assumption)) | exact isI.gc (isW.i2 (by assumption)) | exact isI.gx (isW.i3 (by assumption)) | exact isI.gc (isW.i3 (by assumption)) | exact isI.gx (isW.i4 (by assumption)) | exact isI.gc (isW.i4 (by assumption)) | exact isI.gx (isW.i5 (by assumption)) | exact isI.gc (isW.i5 (by assumption)) | exact isR.gx (by assumption) | exact isRd.gx (by assumption) | exact isSp.gx (by assumption) | exact isI.gx (isR.i (by assumption)) | exact isI.gx (isRd.i (by assumption)) | exact isI.gc (isRd.i (by assumption)) | exact isI.gx (isSp.i (by assumption)) | exact isW.gx (isR.w (by assumption)) | exact isW.gF (isR.w (by assumption)) | exact isK.gx (by assumption) | exact isK.gr (by assumption) | exact isI.gx (isK.row (by assumption) (by omega)) | exact isI.gc (isK.row (by assumption) (by omega)) | fail "no such object") (by rfl) ?_
  refine r_iload_n (pc := 4) dX10_shut_4 rfl ?_
  refine r_callV1 (pc := 5) dX10_shut_5 qX9_scopeAt kX10_95 vX9_scopeAt (by first | assumption | exact isI.gx (by assumption) | exact isI.gc (by assumption) | exact isW.gx (by assumption) | exact isW.gF (by assumption) | exact isW.gT (by assumption) (by omega) | exact isW.gS (by assumption) (by omega) | exact isW.gK (by assumption) (by omega) | exact isW.g1 (by assumption) | exact isW.g2 (by assumption) | exact isW.g3 (by assumption) | exact isI.gx (isW.i0 (by assumption)) | exact isI.gc (isW.i0 (by assumption)) | exact isI.gx (isW.i1 (by assumption)) | exact isI.gc (isW.i1 (by assumption)) | exact isI.gx (isW.i2 (by assumption)) | exact isI.gc (isW.i2 (by assumption)) | exact isI.gx (isW.i3 (by assumption)) | exact isI.gc (isW.i3 (by assumption)) | exact isI.gx (isW.i4 (by assumption)) | exact isI.gc (isW.i4 (by assumption)) | exact isI.gx (isW.i5 (by assumption)) | exact isI.gc (isW.i5 (by assumption)) | exact isR.gx (by assumption) | exact isRd.gx (by assumption) | exact isSp.gx (by assumption) | exact isI.gx (isR.i (by assumption)) | exact isI.gx (isRd.i (by assumption)) | exact isI.gc (isRd.i (by assumption)) | exact isI.gx (isSp.i (by assumption)) | exact isW.gx (isR.w (by assumption)) | exact isW.gF (isR.w (by assumption)) | exact isK.gx (by assumption) | exact isK.gr (by assumption) | exact isI.gx (isK.row (by assumption) (by omega)) | exact isI.gc (isK.row (by assumption) (by omega)) | fail "no such object") rfl rfl (Nat.le_of_ble_eq_true rfl) (cw_scopeAt _ hW hc ha) (fun v_5 h_5 q_5 => ?_)
  obtain ⟨q1_5, rfl⟩ := q_5
  by_cases e_5 : inW c 1 60 a
  · obtain rfl := scAt_P e_5 q1_5
    refine r_astore_n (pc := 8) dX10_shut_8 (Nat.le_of_ble_eq_true rfl) (by first | rfl | exact isRefV_rf _) ?_
    dsimp only [lsSt, List.set, mLs, mEnt]
    refine r_aload_n (pc := 9) dX10_shut_9 rfl (by first | rfl | exact isRefV_rf _) ?_
    refine r_ifnonnull (pc := 10) (tgt := 15) dX10_shut_10 (by decide) (by first | rfl | exact isRefV_rf _) (fun a_10 c_10 => ?_) (fun c_10 => by cases c_10)
    refine r_aload_n (pc := 15) dX10_shut_15 rfl (by first | rfl | exact isRefV_rf _) ?_
    refine r_getf (pc := 16) dX10_shut_16 fX10_99 (by first | assumption | exact isI.gx (by assumption) | exact isI.gc (by assumption) | exact isW.gx (by assumption) | exact isW.gF (by assumption) | exact isW.gT (by assumption) (by omega) | exact isW.gS (by assumption) (by omega) | exact isW.gK (by assumption) (by omega) | exact isW.g1 (by assumption) | exact isW.g2 (by assumption) | exact isW.g3 (by assumption) | exact isI.gx (isW.i0 (by assumption)) | exact isI.gc (isW.i0 (by assumption)) | exact isI.gx (isW.i1 (by assumption)) | exact isI.gc (isW.i1 (by assumption)) | exact isI.gx (isW.i2 (by assumption)) | exact isI.gc (isW.i2 (by assumption)) | exact isI.gx (isW.i3 (by assumption)) | exact isI.gc (isW.i3 (by assumption)) | exact isI.gx (isW.i4 (by assumption)) | exact isI.gc (isW.i4 (by assumption)) | exact isI.gx (isW.i5 (by assumption)) | exact isI.gc (isW.i5 (by assumption)) | exact isR.gx (by assumption) | exact isRd.gx (by assumption) | exact isSp.gx (by assumption) | exact isI.gx (isR.i (by assumption)) | exact isI.gx (isRd.i (by assumption)) | exact isI.gc (isRd.i (by assumption)) | exact isI.gx (isSp.i (by assumption)) | exact isW.gx (isR.w (by assumption)) | exact isW.gF (isR.w (by assumption)) | exact isK.gx (by assumption) | exact isK.gr (by assumption) | exact isI.gx (isK.row (by assumption) (by omega)) | exact isI.gc (isK.row (by assumption) (by omega)) | fail "no such object") (by rfl) ?_
    refine rj_if_eq (pc := 19) (tgt := 27) dX10_shut_19 (by decide) (by first | exact b01_r | exact bz_r | omega | (constructor <;> omega) | apply_assumption | (apply atF_r; assumption) | fail "no range") (fun c_19 => ?_) (fun c_19 => ?_)
    · try simp only [b01_0, bz_0, Classical.not_not] at c_19
      refine r_aload_n (pc := 27) dX10_shut_27 rfl (by first | rfl | exact isRefV_rf _) ?_
      refine r_getf (pc := 28) dX10_shut_28 fX10_43 (by first | assumption | exact isI.gx (by assumption) | exact isI.gc (by assumption) | exact isW.gx (by assumption) | exact isW.gF (by assumption) | exact isW.gT (by assumption) (by omega) | exact isW.gS (by assumption) (by omega) | exact isW.gK (by assumption) (by omega) | exact isW.g1 (by assumption) | exact isW.g2 (by assumption) | exact isW.g3 (by assumption) | exact isI.gx (isW.i0 (by assumption)) | exact isI.gc (isW.i0 (by assumption)) | exact isI.gx (isW.i1 (by assumption)) | exact isI.gc (isW.i1 (by assumption)) | exact isI.gx (isW.i2 (by assumption)) | exact isI.gc (isW.i2 (by assumption)) | exact isI.gx (isW.i3 (by assumption)) | exact isI.gc (isW.i3 (by assumption)) | exact isI.gx (isW.i4 (by assumption)) | exact isI.gc (isW.i4 (by assumption)) | exact isI.gx (isW.i5 (by assumption)) | exact isI.gc (isW.i5 (by assumption)) | exact isR.gx (by assumption) | exact isRd.gx (by assumption) | exact isSp.gx (by assumption) | exact isI.gx (isR.i (by assumption)) | exact isI.gx (isRd.i (by assumption)) | exact isI.gc (isRd.i (by assumption)) | exact isI.gx (isSp.i (by assumption)) | exact isW.gx (isR.w (by assumption)) | exact isW.gF (isR.w (by assumption)) | exact isK.gx (by assumption) | exact isK.gr (by assumption) | exact isI.gx (isK.row (by assumption) (by omega)) | exact isI.gc (isK.row (by assumption) (by omega)) | fail "no such object") (by rfl) ?_
      refine rj_bipush (pc := 31) dX10_shut_31 (by decide +kernel) ?_
      refine r_iload_n (pc := 33) dX10_shut_33 rfl ?_
      refine rj_iadd (pc := 34) dX10_shut_34 ?_
      refine r_callV1 (pc := 35) dX10_shut_35 qX3_endInCall kX10_137 vX3_endInCall (by first | assumption | exact isI.gx (by assumption) | exact isI.gc (by assumption) | exact isW.gx (by assumption) | exact isW.gF (by assumption) | exact isW.gT (by assumption) (by omega) | exact isW.gS (by assumption) (by omega) | exact isW.gK (by assumption) (by omega) | exact isW.g1 (by assumption) | exact isW.g2 (by assumption) | exact isW.g3 (by assumption) | exact isI.gx (isW.i0 (by assumption)) | exact isI.gc (isW.i0 (by assumption)) | exact isI.gx (isW.i1 (by assumption)) | exact isI.gc (isW.i1 (by assumption)) | exact isI.gx (isW.i2 (by assumption)) | exact isI.gc (isW.i2 (by assumption)) | exact isI.gx (isW.i3 (by assumption)) | exact isI.gc (isW.i3 (by assumption)) | exact isI.gx (isW.i4 (by assumption)) | exact isI.gc (isW.i4 (by assumption)) | exact isI.gx (isW.i5 (by assumption)) | exact isI.gc (isW.i5 (by assumption)) | exact isR.gx (by assumption) | exact isRd.gx (by assumption) | exact isSp.gx (by assumption) | exact isI.gx (isR.i (by assumption)) | exact isI.gx (isRd.i (by assumption)) | exact isI.gc (isRd.i (by assumption)) | exact isI.gx (isSp.i (by assumption)) | exact isW.gx (isR.w (by assumption)) | exact isW.gF (isR.w (by assumption)) | exact isK.gx (by assumption) | exact isK.gr (by assumption) | exact isI.gx (isK.row (by assumption) (by omega)) | exact isI.gc (isK.row (by assumption) (by omega)) | fail "no such object") rfl rfl (Nat.le_of_ble_eq_true rfl) (P e_5 (by assumption)) (fun v_35 h_35 q_35 => ?_)
      obtain ⟨rfl, R_35⟩ := q_35
      refine r_ireturn (pc := 38) .int dX10_shut_38 rfl (by first | rfl | assumption) ?_
      first | exact Or.inl ⟨by assumption, rfl, rfl⟩ | exact Or.inr (Or.inl ⟨by assumption, by assumption, rfl, rfl⟩) | exact Or.inr (Or.inr ⟨by assumption, by assumption, rfl, by assumption⟩)
    · try simp only [b01_0, bz_0, Classical.not_not] at c_19
      refine rj_bipush (pc := 22) dX10_shut_22 (by decide +kernel) ?_
      refine r_goto (pc := 24) (tgt := 38) dX10_shut_24 (by decide) ?_
      refine r_ireturn (pc := 38) .int dX10_shut_38 rfl (by first | rfl | assumption) ?_
      first | exact Or.inl ⟨by assumption, rfl, rfl⟩ | exact Or.inr (Or.inl ⟨by assumption, by assumption, rfl, rfl⟩) | exact Or.inr (Or.inr ⟨by assumption, by assumption, rfl, by assumption⟩)
  · obtain rfl := scAt_N e_5 q1_5
    refine r_astore_n (pc := 8) dX10_shut_8 (Nat.le_of_ble_eq_true rfl) (by first | rfl | exact isRefV_rf _) ?_
    dsimp only [lsSt, List.set, mLs, mEnt]
    refine r_aload_n (pc := 9) dX10_shut_9 rfl (by first | rfl | exact isRefV_rf _) ?_
    refine r_ifnonnull (pc := 10) (tgt := 15) dX10_shut_10 (by decide) (by first | rfl | exact isRefV_rf _) (fun a_10 c_10 => by cases c_10) (fun c_10 => ?_)
    refine rj_iconst (pc := 13) dX10_shut_13 ?_
    refine r_ireturn (pc := 14) .int dX10_shut_14 rfl (by first | rfl | assumption) ?_
    first | exact Or.inl ⟨by assumption, rfl, rfl⟩ | exact Or.inr (Or.inl ⟨by assumption, by assumption, rfl, rfl⟩) | exact Or.inr (Or.inr ⟨by assumption, by assumption, rfl, by assumption⟩)
set_option maxHeartbeats 4000000 in
set_option maxRecDepth 100000 in
theorem kg_tick {G : mG} {l : Launch} (d : Nat) {h : mH} {x : Nat} {kp tk : Option Nat} {zr : Nat → Int} {fr : Nat → Nat → Int} {p e o zt : Int} {ft : Nat → Int} {zs : Int} {fs : Nat → Int} {b za : Int} {fa : Nat → Int} {c : Nat → Int} {C : Nat → Nat → Int} {nm : Nat → Int64} {g : Nat → Option Nat} (hK : isK h x kp tk zr fr p e o zt ft zs fs b za fa c C nm g) (hc : ∀ q, InR (c q)) (hC : ∀ k q, InR (C k q)) {r1 : Int} {R : mH → Prop} (hr1 : InR r1) (P : RUNM G l (d + 13) mX3_tickOnce [.ref (kA x 8)] h (fun v h' => v = some (.int (J r1)) ∧ R h')) : RUNM G l (d + 14) mX10_tick [.ref x] h (fun v h' => v = some (.int (J r1)) ∧ R h') := by
  refine RUNM.of (by decide +kernel) (Nat.le_of_ble_eq_true rfl) ?_
  have hD := hK.d
  have hS := hK.s
  have hR := hK.r
  have hW := hK.w
  refine r_aload_n (pc := 0) dX10_tick_0 rfl (by first | rfl | exact isRefV_rf _) ?_
  refine r_getf (pc := 1) dX10_tick_1 fX10_43 (by first | assumption | exact isI.gx (by assumption) | exact isI.gc (by assumption) | exact isW.gx (by assumption) | exact isW.gF (by assumption) | exact isW.gT (by assumption) (by omega) | exact isW.gS (by assumption) (by omega) | exact isW.gK (by assumption) (by omega) | exact isW.g1 (by assumption) | exact isW.g2 (by assumption) | exact isW.g3 (by assumption) | exact isI.gx (isW.i0 (by assumption)) | exact isI.gc (isW.i0 (by assumption)) | exact isI.gx (isW.i1 (by assumption)) | exact isI.gc (isW.i1 (by assumption)) | exact isI.gx (isW.i2 (by assumption)) | exact isI.gc (isW.i2 (by assumption)) | exact isI.gx (isW.i3 (by assumption)) | exact isI.gc (isW.i3 (by assumption)) | exact isI.gx (isW.i4 (by assumption)) | exact isI.gc (isW.i4 (by assumption)) | exact isI.gx (isW.i5 (by assumption)) | exact isI.gc (isW.i5 (by assumption)) | exact isR.gx (by assumption) | exact isRd.gx (by assumption) | exact isSp.gx (by assumption) | exact isI.gx (isR.i (by assumption)) | exact isI.gx (isRd.i (by assumption)) | exact isI.gc (isRd.i (by assumption)) | exact isI.gx (isSp.i (by assumption)) | exact isW.gx (isR.w (by assumption)) | exact isW.gF (isR.w (by assumption)) | exact isK.gx (by assumption) | exact isK.gr (by assumption) | exact isI.gx (isK.row (by assumption) (by omega)) | exact isI.gc (isK.row (by assumption) (by omega)) | fail "no such object") (by rfl) ?_
  refine r_callV0 (pc := 4) dX10_tick_4 qX3_tickOnce kX10_250 vX3_tickOnce (by first | assumption | exact isI.gx (by assumption) | exact isI.gc (by assumption) | exact isW.gx (by assumption) | exact isW.gF (by assumption) | exact isW.gT (by assumption) (by omega) | exact isW.gS (by assumption) (by omega) | exact isW.gK (by assumption) (by omega) | exact isW.g1 (by assumption) | exact isW.g2 (by assumption) | exact isW.g3 (by assumption) | exact isI.gx (isW.i0 (by assumption)) | exact isI.gc (isW.i0 (by assumption)) | exact isI.gx (isW.i1 (by assumption)) | exact isI.gc (isW.i1 (by assumption)) | exact isI.gx (isW.i2 (by assumption)) | exact isI.gc (isW.i2 (by assumption)) | exact isI.gx (isW.i3 (by assumption)) | exact isI.gc (isW.i3 (by assumption)) | exact isI.gx (isW.i4 (by assumption)) | exact isI.gc (isW.i4 (by assumption)) | exact isI.gx (isW.i5 (by assumption)) | exact isI.gc (isW.i5 (by assumption)) | exact isR.gx (by assumption) | exact isRd.gx (by assumption) | exact isSp.gx (by assumption) | exact isI.gx (isR.i (by assumption)) | exact isI.gx (isRd.i (by assumption)) | exact isI.gc (isRd.i (by assumption)) | exact isI.gx (isSp.i (by assumption)) | exact isW.gx (isR.w (by assumption)) | exact isW.gF (isR.w (by assumption)) | exact isK.gx (by assumption) | exact isK.gr (by assumption) | exact isI.gx (isK.row (by assumption) (by omega)) | exact isI.gc (isK.row (by assumption) (by omega)) | fail "no such object") rfl rfl (Nat.le_of_ble_eq_true rfl) P (fun v_4 h_4 q_4 => ?_)
  obtain ⟨rfl, R_4⟩ := q_4
  refine r_ireturn (pc := 7) .int dX10_tick_7 rfl (by first | rfl | assumption) ?_
  exact ⟨rfl, by assumption⟩
set_option maxHeartbeats 4000000 in
set_option maxRecDepth 100000 in
theorem kg_run {G : mG} {l : Launch} (d : Nat) {h : mH} {x : Nat} {kp tk : Option Nat} {zr : Nat → Int} {fr : Nat → Nat → Int} {p e o zt : Int} {ft : Nat → Int} {zs : Int} {fs : Nat → Int} {b za : Int} {fa : Nat → Int} {c : Nat → Int} {C : Nat → Nat → Int} {nm : Nat → Int64} {g : Nat → Option Nat} (hK : isK h x kp tk zr fr p e o zt ft zs fs b za fa c C nm g) (hc : ∀ q, InR (c q)) (hC : ∀ k q, InR (C k q)) {a : Int} (ha : InR a) {r1 : Int} {R : mH → Prop} (hr1 : InR r1) (P : (0 ≤ a ∧ a ≤ 100) → RUNM G l (d + 13) mX3_tickUpTo [.ref (kA x 8), .int (J a)] h (fun v h' => v = some (.int (J r1)) ∧ R h')) : RUNM G l (d + 14) mX10_run [.ref x, .int (J a)] h (fun v h' => (¬ (0 ≤ a ∧ a ≤ 100) ∧ v = some (.int (J (-2))) ∧ h' = h) ∨ ((0 ≤ a ∧ a ≤ 100) ∧ v = some (.int (J r1)) ∧ R h')) := by
  refine RUNM.of (by decide +kernel) (Nat.le_of_ble_eq_true rfl) ?_
  have hD := hK.d
  have hS := hK.s
  have hR := hK.r
  have hW := hK.w
  refine r_iload_n (pc := 0) dX10_run_0 rfl ?_
  refine rj_if_lt (pc := 1) (tgt := 10) dX10_run_1 (by decide) (by first | exact b01_r | exact bz_r | omega | (constructor <;> omega) | apply_assumption | (apply atF_r; assumption) | fail "no range") (fun c_1 => ?_) (fun c_1 => ?_)
  · refine rj_bipush (pc := 10) dX10_run_10 (by decide +kernel) ?_
    refine r_goto (pc := 12) (tgt := 23) dX10_run_12 (by decide) ?_
    refine r_ireturn (pc := 23) .int dX10_run_23 rfl (by first | rfl | assumption) ?_
    first | exact Or.inl ⟨by omega, rfl, rfl⟩ | exact Or.inr ⟨by omega, rfl, by assumption⟩
  · refine r_iload_n (pc := 4) dX10_run_4 rfl ?_
    refine rj_bipush (pc := 5) dX10_run_5 (by decide +kernel) ?_
    refine rj_icmp_le (pc := 7) (tgt := 15) dX10_run_7 (by decide) (by first | exact b01_r | exact bz_r | omega | (constructor <;> omega) | apply_assumption | (apply atF_r; assumption) | fail "no range") (by first | exact b01_r | exact bz_r | omega | (constructor <;> omega) | apply_assumption | (apply atF_r; assumption) | fail "no range") (fun c_7 => ?_) (fun c_7 => ?_)
    · refine r_aload_n (pc := 15) dX10_run_15 rfl (by first | rfl | exact isRefV_rf _) ?_
      refine r_getf (pc := 16) dX10_run_16 fX10_43 (by first | assumption | exact isI.gx (by assumption) | exact isI.gc (by assumption) | exact isW.gx (by assumption) | exact isW.gF (by assumption) | exact isW.gT (by assumption) (by omega) | exact isW.gS (by assumption) (by omega) | exact isW.gK (by assumption) (by omega) | exact isW.g1 (by assumption) | exact isW.g2 (by assumption) | exact isW.g3 (by assumption) | exact isI.gx (isW.i0 (by assumption)) | exact isI.gc (isW.i0 (by assumption)) | exact isI.gx (isW.i1 (by assumption)) | exact isI.gc (isW.i1 (by assumption)) | exact isI.gx (isW.i2 (by assumption)) | exact isI.gc (isW.i2 (by assumption)) | exact isI.gx (isW.i3 (by assumption)) | exact isI.gc (isW.i3 (by assumption)) | exact isI.gx (isW.i4 (by assumption)) | exact isI.gc (isW.i4 (by assumption)) | exact isI.gx (isW.i5 (by assumption)) | exact isI.gc (isW.i5 (by assumption)) | exact isR.gx (by assumption) | exact isRd.gx (by assumption) | exact isSp.gx (by assumption) | exact isI.gx (isR.i (by assumption)) | exact isI.gx (isRd.i (by assumption)) | exact isI.gc (isRd.i (by assumption)) | exact isI.gx (isSp.i (by assumption)) | exact isW.gx (isR.w (by assumption)) | exact isW.gF (isR.w (by assumption)) | exact isK.gx (by assumption) | exact isK.gr (by assumption) | exact isI.gx (isK.row (by assumption) (by omega)) | exact isI.gc (isK.row (by assumption) (by omega)) | fail "no such object") (by rfl) ?_
      refine r_iload_n (pc := 19) dX10_run_19 rfl ?_
      refine r_callV1 (pc := 20) dX10_run_20 qX3_tickUpTo kX10_224 vX3_tickUpTo (by first | assumption | exact isI.gx (by assumption) | exact isI.gc (by assumption) | exact isW.gx (by assumption) | exact isW.gF (by assumption) | exact isW.gT (by assumption) (by omega) | exact isW.gS (by assumption) (by omega) | exact isW.gK (by assumption) (by omega) | exact isW.g1 (by assumption) | exact isW.g2 (by assumption) | exact isW.g3 (by assumption) | exact isI.gx (isW.i0 (by assumption)) | exact isI.gc (isW.i0 (by assumption)) | exact isI.gx (isW.i1 (by assumption)) | exact isI.gc (isW.i1 (by assumption)) | exact isI.gx (isW.i2 (by assumption)) | exact isI.gc (isW.i2 (by assumption)) | exact isI.gx (isW.i3 (by assumption)) | exact isI.gc (isW.i3 (by assumption)) | exact isI.gx (isW.i4 (by assumption)) | exact isI.gc (isW.i4 (by assumption)) | exact isI.gx (isW.i5 (by assumption)) | exact isI.gc (isW.i5 (by assumption)) | exact isR.gx (by assumption) | exact isRd.gx (by assumption) | exact isSp.gx (by assumption) | exact isI.gx (isR.i (by assumption)) | exact isI.gx (isRd.i (by assumption)) | exact isI.gc (isRd.i (by assumption)) | exact isI.gx (isSp.i (by assumption)) | exact isW.gx (isR.w (by assumption)) | exact isW.gF (isR.w (by assumption)) | exact isK.gx (by assumption) | exact isK.gr (by assumption) | exact isI.gx (isK.row (by assumption) (by omega)) | exact isI.gc (isK.row (by assumption) (by omega)) | fail "no such object") rfl rfl (Nat.le_of_ble_eq_true rfl) (P (by omega)) (fun v_20 h_20 q_20 => ?_)
      obtain ⟨rfl, R_20⟩ := q_20
      refine r_ireturn (pc := 23) .int dX10_run_23 rfl (by first | rfl | assumption) ?_
      first | exact Or.inl ⟨by omega, rfl, rfl⟩ | exact Or.inr ⟨by omega, rfl, by assumption⟩
    · refine rj_bipush (pc := 10) dX10_run_10 (by decide +kernel) ?_
      refine r_goto (pc := 12) (tgt := 23) dX10_run_12 (by decide) ?_
      refine r_ireturn (pc := 23) .int dX10_run_23 rfl (by first | rfl | assumption) ?_
      first | exact Or.inl ⟨by omega, rfl, rfl⟩ | exact Or.inr ⟨by omega, rfl, by assumption⟩
end mg_d4

/-! ===== would, trial on both ===== -/
theorem both_ticks3 {G : mG} {l : Launch} {r : Nat} {pool : Nat → Int} {S : Nat → Option mO} {h0 : mH} (hS : ∀ a o, S a = some o → hGet h0 a = some o) (hSr : ∀ a, ¬ S a = none → ¬ rBlk r a) (hPo : poolOk pool) {m : Nat → Int} {B T : Int} {n : Nat} (h : All m pool B T) (hn : n ≤ 100) (hB : B ≤ 1000000000) (hT : T ≤ 900000000) :
    ∃ (k : Nat) (m' : Nat → Int), ticksR pool n m k m' ∧ k ≤ n ∧ All m' pool (B + 12000) (T + 100) ∧ m' 3 = m 3 ∧ ∀ b0 c4 h1, BES r pool S h0 b0 c4 m h1 → RUNM G l 13 mX3_tickUpTo [.ref r, .int (J (n : Int))] h1 (fun v h' => v = some (.int (J (k : Int))) ∧ ∃ b, BES r pool S h0 b c4 m' h') := by
  obtain ⟨h1, h2, h3, h4⟩ := id h
  obtain ⟨k, s, s0, t1, t2, t3, t4, t5, t6, t7, t8, t9, t10⟩ := both_tickL (G := G) (l := l) hS hSr hPo n m B h1 h2 (by omega) (by omega)
  refine ⟨k, s k, t1, t2, ⟨t3.up (by omega), t4, by omega, by omega⟩, t5, fun b0 c4 hh hX => ?_⟩
  refine cr_tickUpTo (G := G) (l := l) 12 (T := fun i h' => ∃ b, BES r pool S h0 b c4 (s i) h') (N := k) (M := (n : Int)) ⟨by omega, by omega⟩ (fun i h' w => ?_) (fun i h' hi w => ?_) ?_ ?_
  · obtain ⟨b, w⟩ := w
    exact w.o3
  · obtain ⟨b, w⟩ := w
    obtain ⟨q, hq, R1, r1, r2, r3⟩ := t9 i hi b c4 h' w
    exact ⟨(q : Int), R1, ⟨by omega, by omega⟩, by omega, r1, r2, fun h'' w => (r3 h'' w).mono (fun _ x => ⟨_, x⟩)⟩
  · rcases t10 with t10 | t10
    · exact Or.inl (by omega)
    · refine Or.inr (fun h' w => ?_)
      obtain ⟨b, w⟩ := w
      exact t10 b c4 h' w
  · exact ⟨b0, by show BES r pool S h0 b0 c4 (s 0) hh; rw [s0]; exact hX⟩
/-- one that thinks stands ready, all as it is now -/
def THK (x y : Nat) (h : mH) (S : Nat → Option mO) (kp : Option Nat) (f4 : Int) (m kpm pool : Nat → Int) (r2 : Nat) (h1 : mH) : Prop :=
  (∃ (b : Int) (f c : Nat → Int) (C : Nat → Nat → Int) (nm : Nat → Int64) (g : Nat → Option Nat), isR h1 r2 b 0 f c C nm g ∧ CTR m pool S c C nm g) ∧ (y + 10 ≤ r2 ∧ r2 + 180 ≤ h1.2.1) ∧ (∀ a, rBlk r2 a → S a = none) ∧ (∀ w, kp = some w → w + 177 ≤ r2 ∨ r2 + 180 ≤ w) ∧ stR y h1 S ∧ keR y h1 S kp f4 kpm pool ∧ (h1.1 = h.1 ∧ ∀ b, mBlk y b ∨ b < x → hGet h1 b = hGet h b) ∧ h1.2.1 ≤ h.2.1 + 200 ∧ h1.2.2.1 ≤ h.2.2.1 + 5000
theorem think_both {G : mG} {l : Launch} (hG : G.2.map Prod.snd = mTy) {x y : Nat} {h : mH} {S : Nat → Option mO} {kp tk : Option Nat} {zr : Nat → Int} {fr : Nat → Nat → Int} {p e o zt : Int} {ft : Nat → Int} {zs : Int} {fs : Nat → Int} {b : Int} {fa : Nat → Int} {c : Nat → Int} {C : Nat → Nat → Int} {nm : Nat → Int64} {g : Nat → Option Nat} {f4 : Int} {m kpm pool : Nat → Int} (hK : isK h x kp tk zr fr p e o zt ft zs fs b 0 fa c C nm g) (hT : CTR m pool S c C nm g) (hst : stR y h S) (hke : keR y h S kp f4 kpm pool) (htk : tkR y h S kp tk) (hxy : x + 196 ≤ y ∧ y + 10 ≤ h.2.1) (hok : mOk m) (hTk : TkM m pool 99) :
    ∃ r2 h1, RUNM G l 30 mX10_thinkerOfNow [.ref x] h (fun v h' => v = some (.ref r2) ∧ h' = h1) ∧ isK h1 x kp (some r2) zr fr p e o zt ft zs fs b 0 fa c C nm g ∧ THK x y h S kp f4 m kpm pool r2 h1 := by
  obtain ⟨hc, hC⟩ := ctr_r hT
  rcases id htk with rfl | ⟨r2, b2, f2, c2, C2, nm2, g2, rfl, ⟨t1, t2⟩, t3, t4, t5, t6⟩
  · have P := kg_thinkN (G := G) (l := l) 16 hK hc hC hG (by omega) (R := fun h' => ∃ h1, isR h1 h.2.1 0 0 w0 wc0 wC0 wn0 wg0 ∧ isK h1 x kp (some h.2.1) zr fr p e o zt ft zs fs b 0 fa c C nm g ∧ (h1.1 = h.1 ∧ (∀ q, q < h.2.1 → ¬ q = x → hGet h1 q = hGet h q) ∧ h1.2.1 = h.2.1 + 180 ∧ h1.2.2.1 ≤ h.2.2.1 + 5000) ∧ (∃ c' C' nm' g', isW h' (rA h.2.1 1) c' C' nm' g' ∧ CTR m pool S c' C' nm' g') ∧ Same (wBlk (rA h.2.1 1)) h1 h') (fun h1 k1 k2 k3 => (ctr_become 27 k1.w wc0_r k2.w (Or.inr (by unfold rA kA; omega)) hT hok hTk).mono (fun v h' q => ⟨q.1, h1, k1, k2, k3, q.2.1, q.2.2⟩)) (fun h' ⟨h1, k1, k2, k3, k4, k5⟩ => (k5.2.2.2 x (by unfold wBlk rA; omega)).trans k2.gx)
    obtain ⟨v1, h1, ⟨rfl, h2, k1, k2, ⟨k3, k4, k5, k6⟩, ⟨c3, C3, nm3, g3, k7, k8⟩, k9⟩, R1⟩ := P.ex
    have z1 := k9.2.1
    have z2 := k9.2.2.1
    have oS : ∀ a, rBlk h.2.1 a → S a = none := fun a ha => by
      cases z : S a with
      | none => rfl
      | some ob => have := (hst a ob z).2.2; unfold rBlk at ha; omega
    have oo : Old (kBlk x) h h1 := ⟨k9.1.trans k3, by omega, fun b hb hn => (k9.2.2.2 b (by unfold wBlk rA; omega)).trans (k4 b hb (fun q => hn (by unfold kBlk; omega)))⟩
    refine ⟨h.2.1, h1, R1, k2.kp k9.1 (fun q hq => k9.2.2.2 q (by unfold kBlk at hq; unfold wBlk rA; omega)), ⟨0, w0, c3, C3, nm3, g3, k1.ofW k9 k7, k8⟩, ⟨by omega, by omega⟩, oS, fun w e => Or.inl ?_, hst.kp oo (fun b hb => Or.inl (by unfold kBlk at hb; omega)), hke.kp oo (fun b w e hb => by have := hke.lo e; unfold wBlk at hb; unfold kBlk; omega), ⟨k9.1.trans k3, fun b hb => (oo.2.2 b (by unfold mBlk at hb; omega) (by unfold mBlk at hb; unfold kBlk; omega))⟩, by omega, by omega⟩
    rcases hke with ⟨k, -⟩ | ⟨w', c', C', nm', g', ⟨s1, s2⟩, ⟨s3, s4⟩, -⟩
    · rw [k] at e; cases e
    · rw [s1] at e; cases e; exact s4
  · have P := kg_thinkS (G := G) (l := l) 16 hK hc hC t5 (R := fun h' => (∃ c' C' nm' g', isW h' (rA r2 1) c' C' nm' g' ∧ CTR m pool S c' C' nm' g') ∧ Same (wBlk (rA r2 1)) h h') ((ctr_become 27 t5.w t6 hK.w (Or.inr (by unfold rA kA; omega)) hT hok hTk).mono (fun v h' q => q)) (fun h' k => k.2.2.2.2 x (by unfold wBlk rA; omega))
    obtain ⟨v1, h1, ⟨rfl, ⟨c3, C3, nm3, g3, k7, k8⟩, k9⟩, R1⟩ := P.ex
    have z1 := k9.2.1
    have z2 := k9.2.2.1
    exact ⟨r2, h1, R1, hK.kp k9.1 (fun q hq => k9.2.2.2 q (by unfold kBlk at hq; unfold wBlk rA; omega)), ⟨b2, f2, c3, C3, nm3, g3, t5.ofW k9 k7, k8⟩, ⟨t1, by omega⟩, t3, t4, hst.kp (Old.of k9) (fun b hb => Or.inr (t3 b (by unfold wBlk rA at hb; unfold rBlk; omega))), hke.kp (Old.of k9) (fun b w e hb => by have := t4 w e; unfold wBlk at hb; unfold wBlk rA; omega), ⟨k9.1, fun b hb => k9.2.2.2 b (by unfold mBlk at hb; unfold wBlk rA; omega)⟩, by omega, by omega⟩

set_option maxHeartbeats 4000000 in
set_option maxRecDepth 100000 in
theorem two_would {sg : Bool} {G : mG} {l : Launch} (hG : G.2.map Prod.snd = mTy) {x y n0 : Nat} {h : mH} (hn0 : n0 ≤ 600) (hI : RI sg x y n0 h) {a : Int} (ha : InR a) {i : Int} (hi : InR i) : TWO sg G l x y n0 false mX10_would mX11_would [.int (J a), .int (J i)] h := by
  obtain ⟨f4, m, kpm, pool, zt, ft, f18, pap, rwd, rw, hCH, hMH, hSO, hSZ⟩ := hI
  obtain ⟨S, kp, tk, zr, fr, p, e, o, zs, fs, b, fa, c, C, nm, g, hK, ⟨hT, hst, hke, htk⟩, hro, hpa, hxy⟩ := id hCH
  obtain ⟨⟨hA, hPo⟩, hkp, hta, h18, hrw⟩ := id hSO
  obtain ⟨N, K, T, Z, F, hX⟩ := fx_of hT hA
  obtain ⟨⟨mN, cN, N90⟩, ⟨mK, cK, K1, K60⟩, ⟨mT, cT, T10⟩, ⟨cZ, Z150⟩, ⟨⟨c11, c12, c13⟩, F90, c4⟩, ⟨hO, hpR, hpO, hoO⟩, ⟨c8, c9, L0, L90⟩, ⟨hc, hC⟩, hst2, htp⟩ := id hX
  obtain ⟨⟨hInv, hsc, hnc, hns⟩, hTk, hm7, hm8⟩ := id hA
  have hok := hInv.1
  have hM := hok.1
  have hCR := hT.1
  have hcT := hCR.2.1
  have hcS := hCR.2.2.1
  have hcK := hCR.2.2.2.1
  have hcL := hCR.2.2.2.2.1
  have hst3 : ∀ t : Nat, (t : Int) < m 1 → 0 ≤ m (258 + 14 * t) ∧ m (258 + 14 * t) ≤ 2 := fun t ht => (hst2 t ht).1
  by_cases w : (0 ≤ a ∧ a ≤ m 0 - 1) ∧ (0 ≤ i ∧ i ≤ 5)
  · obtain ⟨q, rfl⟩ : ∃ q : Nat, a = q := ⟨a.toNat, by omega⟩
    have e18 : ((18 : Int) + 4 * (q : Int)).toNat = 18 + 4 * q := by omega
    have eq : ((q : Int)).toNat = q := by omega
    have s0 : c (304 + 3 * q) = 0 ↔ m (18 + 4 * q) = 0 := by rw [(hcS q (by omega)).1]; exact swT_0 (hsc.2.2 q (by omega)).1
    have hop : openP m (q : Int) ↔ m (18 + 4 * q) = 0 := ⟨fun z => by have := z.2.2; rwa [e18] at this, fun z => ⟨w.1.1, w.1.2, by rw [e18]; exact z⟩⟩
    by_cases w2 : m (18 + 4 * q) = 0
    · have cd : openP m (q : Int) := hop.mpr w2
      have t1 := s0.mpr w2
      obtain ⟨r2, h1, R1, k2, ⟨b1, f1, c1, C1, nm1, g1, r1, r0⟩, ⟨s1, s2⟩, s3, s4, s5, s6, ⟨s7, s8⟩, s9, s10⟩ := think_both (G := G) (l := l) hG hK hT hst hke htk hxy hok hTk
      obtain ⟨m2, x1, hA2, x3, x4⟩ := both_shut (G := G) (l := l) (r := r2) (h0 := h1) s5.hS (fun a e q => e (s3 a q)) hA hPo (by omega) cd
      obtain ⟨v2, h2, ⟨rfl, c5, f3, c3, C3, nm3, g3, hR3, hS3, hC3, hTK3, -⟩, R2⟩ := (x4 b1 (c1 4) h1 ⟨f1, c1, C1, nm1, g1, r1, Same.refl, r0.1, r0.2, rfl⟩).ex
      have hT3 : CTR m2 pool S c3 C3 nm3 g3 := ⟨hC3, hTK3⟩
      obtain ⟨N3, K3, T3, Z3, F3, hX3⟩ := fx_of hT3 hA2
      have eh := fx_held hT3 hA2 hX3
      obtain ⟨⟨xN, dN, N390⟩, -, ⟨xT, dT, T310⟩, -, ⟨⟨d11, d12, d13⟩, F390, d4⟩, ⟨hO3, -⟩, ⟨-, d9, -⟩, ⟨hc3, hC3r⟩, -⟩ := id hX3
      have hK3 := k2.kp hS3.1 (fun q hq => hS3.2.2.2 q (by unfold kBlk at hq; unfold rBlk; omega))
      have hok2 := hA2.1.1.1
      obtain ⟨N4, m4⟩ : ∃ q : Nat, m2 4 = q := ⟨(m2 4).toNat, by have := hA2.1.1.1.2.2.2.2.2.1; omega⟩
      have e5 : manyV m2 N4 (-1) = m2 5 := mv_call
      have r5 := hok2.2.2.2.2.2.2.1
      have ea : (if i = 0 then m2 5 else if i = 1 then fnF c3 (C3 5) (C3 3) F3 (-1) 0 else if i = 2 then fgF c3 (C3 5) (C3 4) F3 (-1) 0 else if i = 3 then c3 9 - c 9 else if i = 4 then c3 0 - c 0 else cnt (hwB c3 0) N3) = wouldV m2 m i := by
        unfold wouldV
        rw [eh, d9, c9, dN, cN, xN, mN, Int.toNat_natCast]
        by_cases z : m2 5 = 0
        · have fn := fn_none hC3 hTK3 hok2 (t := -1) (Or.inl rfl) m4 d11 (e5.trans z)
          rw [fn.1, fn.2, if_pos z, if_pos z]
        · have fn := fn_eq hC3 hTK3 hok2 (t := -1) (k := 0) (Or.inl rfl) m4 d11 ⟨by decide, by rw [e5]; omega⟩
          rw [fn.1, fn.2, if_neg z, if_neg z, fv_call, fv_call]
          rfl
      refine TWO.of (dm := 1000) (z := .int (J (wouldV m2 m i))) (f4' := f4) (m' := m) (kpm' := kpm) (pool' := pool) (zt' := zt) (ft' := ft) (f18' := f18) (pap' := pap) (rwd' := rwd) (rw' := rw) (Nat.le_of_ble_eq_true rfl) (Nat.le_of_ble_eq_true rfl) ⟨_, rfl⟩ hSZ hMH ((kg_would 16 hK hc hC ha hi (h1 := h1) (h2 := h2) (r2 := r2) (n1 := m2 5) (hok2.1 5) (fun _ => R1) (fun _ => r1) (fun _ => R2.deeper (Nat.le_of_ble_eq_true rfl)) (fun _ => hR3) (fun _ => hK3) hc3 hC3r (fun _ => hO3) (N := N3) (fun _ => ⟨dN, N390⟩) (F := F3) (fun _ => ⟨⟨d11, d12, d13⟩, F390, d4⟩)).mono (fun v h' q0 => ?_)) (fun h1 hM1 => ?_) ?_
      · rw [eq, ea] at q0
        rcases q0 with q0 | q0 | ⟨-, q1, rfl⟩
        · exfalso; omega
        · exfalso; omega
        · refine ⟨q1, ⟨S, kp, some r2, zr, fr, p, e, o, zs, fs, b, fa, c, C, nm, g, hK3, ⟨hT, s5.kp (Old.of hS3) (fun b hb => Or.inr (s3 b hb)), s6.kp (Old.of hS3) (fun b w e hb => by have := s4 w e; unfold wBlk at hb; unfold rBlk; omega), Or.inr ⟨r2, (-1), f3, c3, C3, nm3, g3, rfl, ⟨s1, by have := hS3.2.1; omega⟩, s3, s4, hR3, hc3, hC3r⟩⟩, hro, hpa, hxy.1, by have := hS3.2.1; omega⟩, ⟨hS3.1.trans s7, fun b hb => (hS3.2.2.2 b (by unfold mBlk at hb; unfold rBlk; omega)).trans (s8 b hb)⟩, by have := hS3.2.1; omega, by have := hS3.2.2.1; omega⟩
      · obtain ⟨f14, f16, was, pln, r14, f8, f9, f10, f11, f12, f13, s, r11, hB⟩ := id hM1
        refine ((m_would (m' := m2) hPo.r hB hok ha hi (fun _ => ⟨x1, hok2⟩)).deeper (Nat.le_of_ble_eq_true rfl)).mono (fun v h2 q0 => ?_)
        rcases q0 with ⟨q1, -⟩ | ⟨-, q1, -⟩ | ⟨-, -, q1, ⟨was2, q2⟩, q3⟩
        · exact absurd w q1
        · exact absurd cd q1
        · exact ⟨q1, ⟨-1, f16, was2, pln, by decide, q2.isMs r11⟩, q3⟩
      · exact hSO.up
    · have cd : ¬ openP m (q : Int) := fun z => w2 (hop.mp z)
      have t1 : ¬ c (304 + 3 * q) = 0 := fun z => w2 (s0.mp z)
      refine TWO.ask (z := .int (J (-3))) (Nat.le_of_ble_eq_true rfl) (Nat.le_of_ble_eq_true rfl) ⟨_, rfl⟩ hCH hMH hSO hSZ ((kg_would 16 hK hc hC ha hi (h1 := h) (h2 := h) (r2 := 0) (b2 := 0) (z2 := 0) (f2 := w0) (c2 := w0) (C2 := fun _ => w0) (nm2 := wn0) (g2 := wg0) (b3 := 0) (z3 := 0) (f3 := w0) (c3 := w0) (C3 := fun _ => w0) (nm3 := wn0) (g3 := wg0) (n1 := 0) (N := 0) (F := 0) (by decide) (fun z => absurd z (fun z => t1 (by have := z.2; rwa [eq] at this))) (fun z => absurd z (fun z => t1 (by have := z.2; rwa [eq] at this))) (fun z => absurd z (fun z => t1 (by have := z.2; rwa [eq] at this))) (fun z => absurd z (fun z => t1 (by have := z.2; rwa [eq] at this))) (fun z => absurd z (fun z => t1 (by have := z.2; rwa [eq] at this))) w0_r (fun _ => w0_r) (fun z => absurd z (fun z => t1 (by have := z.2; rwa [eq] at this))) (fun z => absurd z (fun z => t1 (by have := z.2; rwa [eq] at this))) (fun z => absurd z (fun z => t1 (by have := z.2; rwa [eq] at this)))).mono (fun v h' q0 => ?_)) (fun h1 f8 f9 f10 f11 f12 f13 f14 f16 was pln s r14 r11 hB => (m_would (m' := m) hPo.r hB hok ha hi (fun z => absurd z cd)).mono (fun v h2 q0 => ?_))
      · rw [eq] at q0
        rcases q0 with q0 | q0 | q0
        · exfalso; omega
        · exact ⟨q0.2.2.1, q0.2.2.2⟩
        · exact absurd q0.1.2 t1
      · rcases q0 with q0 | q0 | q0
        · exact absurd w q0.1
        · exact ⟨q0.2.2.1, q0.2.2.2⟩
        · exact absurd q0.2.1 cd
  · have cd : ¬ (openP m a ∧ (0 ≤ i ∧ i ≤ 5)) := fun z => w ⟨⟨z.1.1, z.1.2.1⟩, z.2⟩
    have wc : ¬ (inW c 1 60 a ∧ (0 ≤ i ∧ i ≤ 5)) := fun z => w ⟨⟨by omega, by omega⟩, z.2⟩
    by_cases wo : openP m a
    · have hm2 : ∃ m2, shutsR pool (-1) 61 (updI m 5 0) a m2 ∧ mOk m2 := by
        obtain ⟨m2, x1, x2, -⟩ := all_shut hA hPo (by omega) wo
        exact ⟨m2, x1, x2.1.1.1⟩
      obtain ⟨m2, hm2⟩ := hm2
      refine TWO.ask (z := .int (J (-1))) (Nat.le_of_ble_eq_true rfl) (Nat.le_of_ble_eq_true rfl) ⟨_, rfl⟩ hCH hMH hSO hSZ ((kg_would 16 hK hc hC ha hi (h1 := h) (h2 := h) (r2 := 0) (b2 := 0) (z2 := 0) (f2 := w0) (c2 := w0) (C2 := fun _ => w0) (nm2 := wn0) (g2 := wg0) (b3 := 0) (z3 := 0) (f3 := w0) (c3 := w0) (C3 := fun _ => w0) (nm3 := wn0) (g3 := wg0) (n1 := 0) (N := 0) (F := 0) (by decide) (fun z => absurd z (fun z => wc z.1)) (fun z => absurd z (fun z => wc z.1)) (fun z => absurd z (fun z => wc z.1)) (fun z => absurd z (fun z => wc z.1)) (fun z => absurd z (fun z => wc z.1)) w0_r (fun _ => w0_r) (fun z => absurd z (fun z => wc z.1)) (fun z => absurd z (fun z => wc z.1)) (fun z => absurd z (fun z => wc z.1))).mono (fun v h' q0 => ?_)) (fun h1 f8 f9 f10 f11 f12 f13 f14 f16 was pln s r14 r11 hB => (m_would (m' := m2) hPo.r hB hok ha hi (fun _ => hm2)).mono (fun v h2 q0 => ?_))
      · rcases q0 with q0 | q0 | q0
        · exact ⟨q0.2.1, q0.2.2⟩
        · exact absurd q0.1 wc
        · exact absurd q0.1.1 wc
      · rcases q0 with q0 | q0 | q0
        · exact ⟨q0.2.1, q0.2.2⟩
        · exact absurd q0.1 w
        · exact absurd q0.1 w
    · skip
      refine TWO.ask (z := .int (J (-1))) (Nat.le_of_ble_eq_true rfl) (Nat.le_of_ble_eq_true rfl) ⟨_, rfl⟩ hCH hMH hSO hSZ ((kg_would 16 hK hc hC ha hi (h1 := h) (h2 := h) (r2 := 0) (b2 := 0) (z2 := 0) (f2 := w0) (c2 := w0) (C2 := fun _ => w0) (nm2 := wn0) (g2 := wg0) (b3 := 0) (z3 := 0) (f3 := w0) (c3 := w0) (C3 := fun _ => w0) (nm3 := wn0) (g3 := wg0) (n1 := 0) (N := 0) (F := 0) (by decide) (fun z => absurd z (fun z => wc z.1)) (fun z => absurd z (fun z => wc z.1)) (fun z => absurd z (fun z => wc z.1)) (fun z => absurd z (fun z => wc z.1)) (fun z => absurd z (fun z => wc z.1)) w0_r (fun _ => w0_r) (fun z => absurd z (fun z => wc z.1)) (fun z => absurd z (fun z => wc z.1)) (fun z => absurd z (fun z => wc z.1))).mono (fun v h' q0 => ?_)) (fun h1 f8 f9 f10 f11 f12 f13 f14 f16 was pln s r14 r11 hB => (m_would (m' := m) hPo.r hB hok ha hi (fun z => absurd z wo)).mono (fun v h2 q0 => ?_))
      · rcases q0 with q0 | q0 | q0
        · exact ⟨q0.2.1, q0.2.2⟩
        · exact absurd q0.1 wc
        · exact absurd q0.1.1 wc
      · rcases q0 with q0 | q0 | q0
        · exact ⟨q0.2.1, q0.2.2⟩
        · exact absurd q0.1 w
        · exact absurd q0.1 w
set_option maxHeartbeats 4000000 in
set_option maxRecDepth 100000 in
theorem two_trial {sg : Bool} {G : mG} {l : Launch} (hG : G.2.map Prod.snd = mTy) {x y n0 : Nat} {h : mH} (hn0 : n0 ≤ 600) (hI : RI sg x y n0 h) {a : Int} (ha : InR a) {i : Int} (hi : InR i) {u : Int} (hu : InR u) : TWO sg G l x y n0 false mX10_trial mX11_trial [.int (J a), .int (J i), .int (J u)] h := by
  obtain ⟨f4, m, kpm, pool, zt, ft, f18, pap, rwd, rw, hCH, hMH, hSO, hSZ⟩ := hI
  obtain ⟨S, kp, tk, zr, fr, p, e, o, zs, fs, b, fa, c, C, nm, g, hK, ⟨hT, hst, hke, htk⟩, hro, hpa, hxy⟩ := id hCH
  obtain ⟨⟨hA, hPo⟩, hkp, hta, h18, hrw⟩ := id hSO
  obtain ⟨N, K, T, Z, F, hX⟩ := fx_of hT hA
  obtain ⟨⟨mN, cN, N90⟩, ⟨mK, cK, K1, K60⟩, ⟨mT, cT, T10⟩, ⟨cZ, Z150⟩, ⟨⟨c11, c12, c13⟩, F90, c4⟩, ⟨hO, hpR, hpO, hoO⟩, ⟨c8, c9, L0, L90⟩, ⟨hc, hC⟩, hst2, htp⟩ := id hX
  obtain ⟨⟨hInv, hsc, hnc, hns⟩, hTk, hm7, hm8⟩ := id hA
  have hok := hInv.1
  have hM := hok.1
  have hCR := hT.1
  have hcT := hCR.2.1
  have hcS := hCR.2.2.1
  have hcK := hCR.2.2.2.1
  have hcL := hCR.2.2.2.2.1
  have hst3 : ∀ t : Nat, (t : Int) < m 1 → 0 ≤ m (258 + 14 * t) ∧ m (258 + 14 * t) ≤ 2 := fun t ht => (hst2 t ht).1
  by_cases wn : 0 ≤ i ∧ i ≤ 100
  · obtain ⟨nn, rfl⟩ : ∃ q : Nat, i = q := ⟨i.toNat, by omega⟩
    have en : ((nn : Int)).toNat = nn := by omega
    obtain ⟨r2, h1, R1, k2, ⟨b1, f1, c1, C1, nm1, g1, r1, r0⟩, ⟨s1, s2⟩, s3, s4, s5, s6, ⟨s7, s8⟩, s9, s10⟩ := think_both (G := G) (l := l) hG hK hT hst hke htk hxy hok hTk
    obtain ⟨kk, m2, x1, x2, hA2, x3, x4⟩ := both_ticks3 (G := G) (l := l) (r := r2) (h0 := h1) (n := nn) s5.hS (fun a e q => e (s3 a q)) hPo hA (by omega) (by omega) (by omega)
    have mR : ∀ z : 0 ≤ (nn : Int) ∧ (nn : Int) ≤ 100, ticksR pool ((nn : Int)).toNat m kk m2 ∧ mOk m2 := fun _ => ⟨by rw [en]; exact x1, hA2.1.1.1⟩
    by_cases w : (0 ≤ a ∧ a ≤ m 3 - 1) ∧ (0 ≤ u ∧ u ≤ 5)
    · obtain ⟨q, rfl⟩ : ∃ q : Nat, a = q := ⟨a.toNat, by omega⟩
      have eq : ((q : Int)).toNat = q := by omega
      obtain ⟨v2, h2, ⟨rfl, b3, f3, c3, C3, nm3, g3, hR3, hS3, hC3, hTK3, -⟩, R2⟩ := (x4 b1 (c1 4) h1 ⟨f1, c1, C1, nm1, g1, r1, Same.refl, r0.1, r0.2, rfl⟩).ex
      have hT3 : CTR m2 pool S c3 C3 nm3 g3 := ⟨hC3, hTK3⟩
      obtain ⟨N3, K3, T3, Z3, F3, hX3⟩ := fx_of hT3 hA2
      have eh := fx_held hT3 hA2 hX3
      obtain ⟨⟨xN, dN, N390⟩, -, ⟨xT, dT, T310⟩, -, ⟨⟨d11, d12, d13⟩, F390, d4⟩, ⟨hO3, -⟩, ⟨-, d9, -⟩, ⟨hc3, hC3r⟩, -⟩ := id hX3
      have hK3 := k2.kp hS3.1 (fun q hq => hS3.2.2.2 q (by unfold kBlk at hq; unfold rBlk; omega))
      have hok2 := hA2.1.1.1
      obtain ⟨N4, m4⟩ : ∃ q : Nat, m2 4 = q := ⟨(m2 4).toNat, by have := hA2.1.1.1.2.2.2.2.2.1; omega⟩
      have tq : (q : Int) = -1 ∨ (0 ≤ (q : Int) ∧ (q : Int) ≤ m2 3 - 1) := Or.inr ⟨by omega, by omega⟩
      have e10 : ((1610 : Int) + 72 * (q : Int)).toNat = 1610 + 72 * q := by omega
      have e12 : ((1612 : Int) + 72 * (q : Int)).toNat = 1612 + 72 * q := by omega
      have ea : (if u = 0 then fcF c3 (C3 5) F3 q else if u = 1 then fnF c3 (C3 5) (C3 3) F3 q 0 else if u = 2 then fgF c3 (C3 5) (C3 4) F3 q 0 else if u = 3 then (if inW c3 2 10 q then c3 (489 + 9 * q) else -1) else if u = 4 then (if inW c3 2 10 q then c3 (491 + 9 * q) else -1) else c3 9) = trialV m2 q u := by
        unfold trialV
        have e4 : (m2 4).toNat = N4 := by omega
        have k0 := (hC3.2.2.2.1 q (by omega)).1
        have k1 := (hTK3.2 q (by omega)).1.2.2.1
        have wq : inW c3 2 10 (q : Int) := ⟨by omega, by omega, by omega⟩
        have mr : 0 ≤ manyV m2 N4 q := by
          have := cnt_r (faultB m2 q) N4
          unfold manyV
          (repeat' split) <;> omega
        rw [e4, if_pos wq, if_pos wq, fc_eq hC3 hTK3 hok2 tq m4 d11, e10, e12, k0, k1, d9]
        by_cases z : manyV m2 N4 q = 0
        · have fn := fn_none hC3 hTK3 hok2 tq m4 d11 z
          rw [fn.1, fn.2, if_pos z, if_pos z]
        · have fn := fn_eq hC3 hTK3 hok2 tq (k := 0) m4 d11 ⟨by decide, by omega⟩
          rw [fn.1, fn.2, if_neg z, if_neg z]
      refine TWO.of (dm := 1000) (z := .int (J (trialV m2 q u))) (f4' := f4) (m' := m) (kpm' := kpm) (pool' := pool) (zt' := zt) (ft' := ft) (f18' := f18) (pap' := pap) (rwd' := rwd) (rw' := rw) (Nat.le_of_ble_eq_true rfl) (Nat.le_of_ble_eq_true rfl) ⟨_, rfl⟩ hSZ hMH ((kg_trial 16 hK hc hC ha hi hu (h1 := h1) (h2 := h2) (r2 := r2) (n1 := (kk : Int)) ⟨by omega, by omega⟩ (fun _ => R1) (fun _ => r1) (fun _ => R2.deeper (Nat.le_of_ble_eq_true rfl)) (fun _ => hR3) (fun _ => hK3) hc3 hC3r (fun _ => hO3) (N := N3) (fun _ => ⟨dN, N390⟩) (F := F3) (fun _ => ⟨⟨d11, d12, d13⟩, F390, d4⟩)).mono (fun v h' q0 => ?_)) (fun h1 hM1 => ?_) ?_
      · rw [eq, ea] at q0
        rcases q0 with q0 | q0 | ⟨-, q1, rfl⟩
        · exfalso; omega
        · exfalso; omega
        · refine ⟨q1, ⟨S, kp, some r2, zr, fr, p, e, o, zs, fs, b, fa, c, C, nm, g, hK3, ⟨hT, s5.kp (Old.of hS3) (fun b hb => Or.inr (s3 b hb)), s6.kp (Old.of hS3) (fun b w e hb => by have := s4 w e; unfold wBlk at hb; unfold rBlk; omega), Or.inr ⟨r2, b3, f3, c3, C3, nm3, g3, rfl, ⟨s1, by have := hS3.2.1; omega⟩, s3, s4, hR3, hc3, hC3r⟩⟩, hro, hpa, hxy.1, by have := hS3.2.1; omega⟩, ⟨hS3.1.trans s7, fun b hb => (hS3.2.2.2 b (by unfold mBlk at hb; unfold rBlk; omega)).trans (s8 b hb)⟩, by have := hS3.2.1; omega, by have := hS3.2.2.1; omega⟩
      · obtain ⟨f14, f16, was, pln, r14, f8, f9, f10, f11, f12, f13, s, r11, hB⟩ := id hM1
        refine ((m_trial (kk := kk) (m' := m2) hPo.r r14 hB hok ha hi hu mR).deeper (Nat.le_of_ble_eq_true rfl)).mono (fun v h2 q0 => ?_)
        rcases q0 with ⟨q1, -⟩ | ⟨-, q1, -⟩ | ⟨-, -, q1, ⟨was2, g14, rg, q2⟩, q3⟩
        · exact absurd w q1
        · exact absurd wn q1
        · exact ⟨q1, ⟨g14, f16, was2, pln, rg, q2.isMs r11⟩, q3⟩
      · exact hSO.up
    · have wc : ¬ (inW c 2 10 a ∧ (0 ≤ u ∧ u ≤ 5)) := fun z => w ⟨⟨by omega, by omega⟩, z.2⟩
      refine TWO.ask (z := .int (J (-1))) (Nat.le_of_ble_eq_true rfl) (Nat.le_of_ble_eq_true rfl) ⟨_, rfl⟩ hCH hMH hSO hSZ ((kg_trial 16 hK hc hC ha hi hu (h1 := h) (h2 := h) (r2 := 0) (b2 := 0) (z2 := 0) (f2 := w0) (c2 := w0) (C2 := fun _ => w0) (nm2 := wn0) (g2 := wg0) (b3 := 0) (z3 := 0) (f3 := w0) (c3 := w0) (C3 := fun _ => w0) (nm3 := wn0) (g3 := wg0) (n1 := 0) (N := 0) (F := 0) (by decide) (fun z => absurd z (fun z => wc z.1)) (fun z => absurd z (fun z => wc z.1)) (fun z => absurd z (fun z => wc z.1)) (fun z => absurd z (fun z => wc z.1)) (fun z => absurd z (fun z => wc z.1)) w0_r (fun _ => w0_r) (fun z => absurd z (fun z => wc z.1)) (fun z => absurd z (fun z => wc z.1)) (fun z => absurd z (fun z => wc z.1))).mono (fun v h' q0 => ?_)) (fun h1 f8 f9 f10 f11 f12 f13 f14 f16 was pln s r14 r11 hB => (m_trial (kk := kk) (m' := m2) hPo.r r14 hB hok ha hi hu mR).mono (fun v h2 q0 => ?_))
      · rcases q0 with q0 | q0 | q0
        · exact ⟨q0.2.1, q0.2.2⟩
        · exact absurd q0.1 wc
        · exact absurd q0.1.1 wc
      · rcases q0 with q0 | q0 | q0
        · exact ⟨q0.2.1, q0.2.2⟩
        · exact absurd q0.1 w
        · exact absurd q0.1 w
  · by_cases w : (0 ≤ a ∧ a ≤ m 3 - 1) ∧ (0 ≤ u ∧ u ≤ 5)
    · skip
      refine TWO.ask (z := .int (J (-2))) (Nat.le_of_ble_eq_true rfl) (Nat.le_of_ble_eq_true rfl) ⟨_, rfl⟩ hCH hMH hSO hSZ ((kg_trial 16 hK hc hC ha hi hu (h1 := h) (h2 := h) (r2 := 0) (b2 := 0) (z2 := 0) (f2 := w0) (c2 := w0) (C2 := fun _ => w0) (nm2 := wn0) (g2 := wg0) (b3 := 0) (z3 := 0) (f3 := w0) (c3 := w0) (C3 := fun _ => w0) (nm3 := wn0) (g3 := wg0) (n1 := 0) (N := 0) (F := 0) (by decide) (fun z => absurd z (fun z => wn z.2)) (fun z => absurd z (fun z => wn z.2)) (fun z => absurd z (fun z => wn z.2)) (fun z => absurd z (fun z => wn z.2)) (fun z => absurd z (fun z => wn z.2)) w0_r (fun _ => w0_r) (fun z => absurd z (fun z => wn z.2)) (fun z => absurd z (fun z => wn z.2)) (fun z => absurd z (fun z => wn z.2))).mono (fun v h' q0 => ?_)) (fun h1 f8 f9 f10 f11 f12 f13 f14 f16 was pln s r14 r11 hB => (m_trial (kk := 0) (m' := m) hPo.r r14 hB hok ha hi hu (fun z => absurd z wn)).mono (fun v h2 q0 => ?_))
      · rcases q0 with q0 | q0 | q0
        · exfalso; omega
        · exact ⟨q0.2.2.1, q0.2.2.2⟩
        · exact absurd q0.1.2 wn
      · rcases q0 with q0 | q0 | q0
        · exact absurd w q0.1
        · exact ⟨q0.2.2.1, q0.2.2.2⟩
        · exact absurd q0.2.1 wn
    · have wc : ¬ (inW c 2 10 a ∧ (0 ≤ u ∧ u ≤ 5)) := fun z => w ⟨⟨by omega, by omega⟩, z.2⟩
      refine TWO.ask (z := .int (J (-1))) (Nat.le_of_ble_eq_true rfl) (Nat.le_of_ble_eq_true rfl) ⟨_, rfl⟩ hCH hMH hSO hSZ ((kg_trial 16 hK hc hC ha hi hu (h1 := h) (h2 := h) (r2 := 0) (b2 := 0) (z2 := 0) (f2 := w0) (c2 := w0) (C2 := fun _ => w0) (nm2 := wn0) (g2 := wg0) (b3 := 0) (z3 := 0) (f3 := w0) (c3 := w0) (C3 := fun _ => w0) (nm3 := wn0) (g3 := wg0) (n1 := 0) (N := 0) (F := 0) (by decide) (fun z => absurd z (fun z => wc z.1)) (fun z => absurd z (fun z => wc z.1)) (fun z => absurd z (fun z => wc z.1)) (fun z => absurd z (fun z => wc z.1)) (fun z => absurd z (fun z => wc z.1)) w0_r (fun _ => w0_r) (fun z => absurd z (fun z => wc z.1)) (fun z => absurd z (fun z => wc z.1)) (fun z => absurd z (fun z => wc z.1))).mono (fun v h' q0 => ?_)) (fun h1 f8 f9 f10 f11 f12 f13 f14 f16 was pln s r14 r11 hB => (m_trial (kk := 0) (m' := m) hPo.r r14 hB hok ha hi hu (fun z => absurd z wn)).mono (fun v h2 q0 => ?_))
      · rcases q0 with q0 | q0 | q0
        · exact ⟨q0.2.1, q0.2.2⟩
        · exact absurd q0.1 wc
        · exact absurd q0.1.1 wc
      · rcases q0 with q0 | q0 | q0
        · exact ⟨q0.2.1, q0.2.2⟩
        · exact absurd q0.1 w
        · exact absurd q0.1 w

/-! ===== image, undo on both ===== -/
theorem fx_held {m pool c : Nat → Int} {S : Nat → Option mO} {C : Nat → Nat → Int} {nm : Nat → Int64} {g : Nat → Option Nat} {B T0 : Int} {N K T Z F : Nat} (hT : CTR m pool S c C nm g) (hA : All m pool B T0) (hX : FX m c C N K T Z F) : cnt (hwB c 0) N = cnt (heldB m) N := by
  obtain ⟨⟨mN, cN, N90⟩, ⟨mK, cK, K1, K60⟩, -, -, -, ⟨hO, hpR, hpO, hoO⟩, -, -, hst2, -⟩ := hX
  have hsc := hA.1.2.1
  have hcT := hT.1.2.1
  refine cnt_congr N (fun q hq => ?_)
  have s1 := hw_eq hpR hcT (i := 0) (by decide) mK K60 (fun t ht => ⟨(hst2 t ht).1, (hst2 t ht).2.2⟩) (t := q) (by omega)
  rw [s1]
  unfold heldInB belowB
  have s2 := hst2 q (by omega)
  have s3 := (wi_up hpR (o := 0) (by decide) 60 K (m (259 + 14 * q)) (by omega) (by omega) (by omega)).mp (wi_0 hpR 60 _ (by omega) (by omega) (by omega) (fun a h1 h2 => ((hsc.2.2 a h2).2 h1).1.1))
  rw [s3, decide_eq_true rfl, Bool.and_true]
theorem kg_held {G : mG} {l : Launch} (d : Nat) {h : mH} {w : Nat} {m pool c : Nat → Int} {S : Nat → Option mO} {C : Nat → Nat → Int} {nm : Nat → Int64} {g : Nat → Option Nat} {B T0 : Int} (hW : isW h w c C nm g) (hT : CTR m pool S c C nm g) (hA : All m pool B T0) : RUNM G l (d + 3) mX9_heldWithin [.ref w, .int (J 0)] h (fun v h' => v = some (.int (J (cnt (heldB m) (m 1).toNat))) ∧ h' = h) := by
  obtain ⟨N, K, T, Z, F, hX⟩ := fx_of hT hA
  have e := fx_held hT hA hX
  obtain ⟨⟨mN, cN, N90⟩, -, -, -, -, ⟨hO, -⟩, -, ⟨hc, -⟩, -⟩ := hX
  have y := cq_heldWithin (G := G) (l := l) d hW hc hO cN N90 (i := 0) (by decide)
  rw [e, show N = (m 1).toNat by omega] at y
  exact y
theorem ctr_r {m pool c : Nat → Int} {S : Nat → Option mO} {C : Nat → Nat → Int} {nm : Nat → Int64} {g : Nat → Option Nat} (hT : CTR m pool S c C nm g) : (∀ q, InR (c q)) ∧ ∀ k q, InR (C k q) := hT.1.2.2.2.2.2.2.2.2
theorem wc0_r : (∀ q, InR (wc0 q)) ∧ ∀ k q, InR (wC0 k q) := by
  refine ⟨fun q => ?_, fun k q => ?_⟩
  · exact inR_up (inR_up (inR_up (inR_up w0_r (by decide)) (by decide)) (by decide)) (by decide) q
  · unfold wC0 updC
    split
    · unfold zerF
      split
      · decide
      · exact w0_r q
    · exact w0_r q

set_option maxHeartbeats 4000000 in
set_option maxRecDepth 100000 in
theorem two_image {sg : Bool} {G : mG} {l : Launch} (hG : G.2.map Prod.snd = mTy) {x y n0 : Nat} {h : mH} (hn0 : n0 ≤ 600) (hI : RI sg x y n0 h) : TWO sg G l x y n0 false mX10_image mX11_image [] h := by
  obtain ⟨f4, m, kpm, pool, zt, ft, f18, pap, rwd, rw, hCH, hMH, hSO, hSZ⟩ := hI
  obtain ⟨S, kp, tk, zr, fr, p, e, o, zs, fs, b, fa, c, C, nm, g, hK, ⟨hT, hst, hke, htk⟩, hro, hpa, hxy⟩ := id hCH
  obtain ⟨⟨hA, hPo⟩, hkp, hta, h18, hrw⟩ := id hSO
  obtain ⟨N, K, T, Z, F, hX⟩ := fx_of hT hA
  obtain ⟨⟨mN, cN, N90⟩, ⟨mK, cK, K1, K60⟩, ⟨mT, cT, T10⟩, ⟨cZ, Z150⟩, ⟨⟨c11, c12, c13⟩, F90, c4⟩, ⟨hO, hpR, hpO, hoO⟩, ⟨c8, c9, L0, L90⟩, ⟨hc, hC⟩, hst2, htp⟩ := id hX
  obtain ⟨⟨hInv, hsc, hnc, hns⟩, hTk, hm7, hm8⟩ := id hA
  have hok := hInv.1
  have hM := hok.1
  have hCR := hT.1
  have hcT := hCR.2.1
  have hcS := hCR.2.2.1
  have hcK := hCR.2.2.2.1
  have hcL := hCR.2.2.2.2.1
  have hst3 : ∀ t : Nat, (t : Int) < m 1 → 0 ≤ m (258 + 14 * t) ∧ m (258 + 14 * t) ≤ 2 := fun t ht => (hst2 t ht).1
  rcases id hke with ⟨rfl, e4⟩ | ⟨w2, c2, C2, nm2, g2, ⟨rfl, e4⟩, ⟨w3, w4⟩, w5, w6, w7⟩
  · skip
    refine TWO.of (dm := 1000) (z := .int (J (cnt (heldB m) (m 1).toNat))) (f4' := 1) (m' := m) (kpm' := m) (pool' := pool) (zt' := zt) (ft' := ft) (f18' := f18) (pap' := pap) (rwd' := rwd) (rw' := rw) (Nat.le_of_ble_eq_true rfl) (Nat.le_of_ble_eq_true rfl) ⟨_, rfl⟩ hSZ hMH ((kg_imageN 13 hK hc hC hG (by omega) (n1 := cnt (heldB m) (m 1).toNat) (R := fun h' => ∃ h1, isK h1 x (some h.2.1) tk zr fr p e o zt ft zs fs b 0 fa c C nm g ∧ (h1.1 = h.1 ∧ (∀ q, q < h.2.1 → ¬ q = x → hGet h1 q = hGet h q) ∧ h1.2.1 = h.2.1 + 177 ∧ h1.2.2.1 ≤ h.2.2.1 + 5000) ∧ (∃ c' C' nm' g', isW h' h.2.1 c' C' nm' g' ∧ CTR m pool S c' C' nm' g') ∧ Same (wBlk h.2.1) h1 h') (fun h1 k1 k2 k3 => (ctr_become 24 k1 wc0_r k2.w (Or.inr (by unfold rA kA; omega)) hT hok hTk).mono (fun v h' q => ⟨q.1, h1, k2, k3, q.2.1, q.2.2⟩)) (fun h' ⟨h1, k1, k2, k3, k4⟩ => (k4.2.2.2 x (by unfold wBlk; omega)).trans k1.gx) (fun h' ⟨h1, k1, k2, k3, k4⟩ => ⟨_, (k4.2.2.2 _ (by unfold wBlk rA kA; omega)).trans k1.w.gx⟩) (fun h' ⟨h1, k1, k2, k3, k4⟩ => kg_held 23 (k1.w.kept k4 (fun b hb => by unfold wBlk rA kA at hb; unfold wBlk; omega)) hT hA)).mono (fun v h' q0 => ?_)) (fun h1 hM1 => ?_) ?_
    · obtain ⟨q1, h1, k1, ⟨k2, k3, k4, k5⟩, ⟨c2, C2, nm2, g2, k6, k7⟩, k8⟩ := q0
      have z1 := k8.2.1
      have z2 := k8.2.2.1
      have oo : Old (kBlk x) h h' := ⟨k8.1.trans k2, by omega, fun b hb hn => (k8.2.2.2 b (by unfold wBlk; omega)).trans (k3 b hb (fun q => hn (by unfold kBlk; omega)))⟩
      have oS : ∀ a, wBlk h.2.1 a → S a = none := fun a ha => by
        cases z : S a with
        | none => rfl
        | some ob => have := (hst a ob z).2.2; unfold wBlk at ha; omega
      refine ⟨q1, ⟨S, some h.2.1, tk, zr, fr, p, e, o, zs, fs, b, fa, c, C, nm, g, k1.kp k8.1 (fun q hq => k8.2.2.2 q (by unfold kBlk at hq; unfold wBlk; omega)), ⟨hT, hst.kp oo (fun b hb => Or.inl (by unfold kBlk at hb; omega)), Or.inr ⟨h.2.1, c2, C2, nm2, g2, ⟨rfl, rfl⟩, ⟨hxy.2, by omega⟩, oS, k6, k7⟩, ?_⟩, hro, hpa, by omega, by omega⟩, ⟨k8.1.trans k2, fun b hb => ?_⟩, by omega, by omega⟩
      · rcases htk.kp oo (fun b r e hb => by have := htk.lo e; unfold rBlk at hb; unfold kBlk; omega) with t | ⟨r, b2, f2, c3, C3, nm3, g3, t1, t2, t3, t4, t5⟩
        · exact Or.inl t
        · have tr : r + 180 ≤ h.2.1 := by
            rcases htk with t | ⟨r2, b3, f3, c4, C4, nm4, g4, s1, s2, -⟩
            · rw [t] at t1; cases t1
            · rw [s1] at t1; cases t1; exact s2.2
          exact Or.inr ⟨r, b2, f2, c3, C3, nm3, g3, t1, t2, t3, fun w e => by cases e; exact Or.inr tr, t5⟩
      · unfold mBlk at hb
        exact (k8.2.2.2 b (by unfold wBlk; omega)).trans (k3 b (by omega) (by omega))
    · obtain ⟨f14, f16, was, pln, r14, f8, f9, f10, f11, f12, f13, s, r11, hB⟩ := id hM1
      refine ((m_image 0 hB hok).deeper (Nat.le_of_ble_eq_true rfl)).mono (fun v h2 q0 => ?_)
      obtain ⟨q1, q2, q3⟩ := q0
      exact ⟨q1, ⟨f14, f16, was, pln, r14, q2.isMs r11⟩, q3⟩
    · obtain ⟨⟨u1, u2⟩, -, u5⟩ := hSO.up
      exact ⟨⟨u1, u2⟩, ⟨Or.inr rfl, fun _ => ⟨u1, Int.le_refl _⟩⟩, u5⟩
  · have gw2 := w6.gx
    refine TWO.of (dm := 1000) (z := .int (J (cnt (heldB m) (m 1).toNat))) (f4' := 1) (m' := m) (kpm' := m) (pool' := pool) (zt' := zt) (ft' := ft) (f18' := f18) (pap' := pap) (rwd' := rwd) (rw' := rw) (Nat.le_of_ble_eq_true rfl) (Nat.le_of_ble_eq_true rfl) ⟨_, rfl⟩ hSZ hMH ((kg_imageS 13 hK hc hC (n1 := cnt (heldB m) (m 1).toNat) (R := fun h' => (∃ c' C' nm' g', isW h' w2 c' C' nm' g' ∧ CTR m pool S c' C' nm' g') ∧ Same (wBlk w2) h h') ((ctr_become 24 w6 (ctr_r w7) hK.w (Or.inr (by unfold rA kA; omega)) hT hok hTk).mono (fun v h' q => q)) (fun h' k => k.2.2.2.2 x (by unfold wBlk; omega)) (fun h' k => ⟨_, (k.2.2.2.2 _ (by unfold wBlk rA kA; omega)).trans hK.w.gx⟩) gw2 (fun h' k => kg_held 23 (hK.w.kept k.2 (fun b hb => by unfold wBlk rA kA at hb; unfold wBlk; omega)) hT hA)).mono (fun v h' q0 => ?_)) (fun h1 hM1 => ?_) ?_
    · obtain ⟨q1, ⟨c3, C3, nm3, g3, k6, k7⟩, k8⟩ := q0
      have z1 := k8.2.1
      have z2 := k8.2.2.1
      refine ⟨q1, ⟨S, some w2, tk, zr, fr, p, e, o, zs, fs, b, fa, c, C, nm, g, hK.kp k8.1 (fun q hq => k8.2.2.2 q (by unfold kBlk at hq; unfold wBlk; omega)), ⟨hT, hst.kp (Old.of k8) (fun b hb => Or.inr (w5 b hb)), Or.inr ⟨w2, c3, C3, nm3, g3, ⟨rfl, rfl⟩, ⟨w3, by omega⟩, w5, k6, k7⟩, htk.kp (Old.of k8) (fun b r e hb => ?_)⟩, hro, hpa, by omega, by omega⟩, ⟨k8.1, fun b hb => k8.2.2.2 b (by unfold mBlk at hb; unfold wBlk; omega)⟩, by omega, by omega⟩
      rcases htk with t | ⟨r2, b3, f3, c4, C4, nm4, g4, s1, s2, s3, s4, -⟩
      · rw [t] at e; cases e
      · rw [s1] at e; cases e
        have := s4 w2 rfl
        unfold rBlk at hb; unfold wBlk; omega
    · obtain ⟨f14, f16, was, pln, r14, f8, f9, f10, f11, f12, f13, s, r11, hB⟩ := id hM1
      refine ((m_image 0 hB hok).deeper (Nat.le_of_ble_eq_true rfl)).mono (fun v h2 q0 => ?_)
      obtain ⟨q1, q2, q3⟩ := q0
      exact ⟨q1, ⟨f14, f16, was, pln, r14, q2.isMs r11⟩, q3⟩
    · obtain ⟨⟨u1, u2⟩, -, u5⟩ := hSO.up
      exact ⟨⟨u1, u2⟩, ⟨Or.inr rfl, fun _ => ⟨u1, Int.le_refl _⟩⟩, u5⟩
set_option maxHeartbeats 4000000 in
set_option maxRecDepth 100000 in
theorem two_undo {sg : Bool} {G : mG} {l : Launch} (hG : G.2.map Prod.snd = mTy) {x y n0 : Nat} {h : mH} (hn0 : n0 ≤ 600) (hI : RI sg x y n0 h) : TWO sg G l x y n0 false mX10_undo mX11_undo [] h := by
  obtain ⟨f4, m, kpm, pool, zt, ft, f18, pap, rwd, rw, hCH, hMH, hSO, hSZ⟩ := hI
  obtain ⟨S, kp, tk, zr, fr, p, e, o, zs, fs, b, fa, c, C, nm, g, hK, ⟨hT, hst, hke, htk⟩, hro, hpa, hxy⟩ := id hCH
  obtain ⟨⟨hA, hPo⟩, hkp, hta, h18, hrw⟩ := id hSO
  obtain ⟨N, K, T, Z, F, hX⟩ := fx_of hT hA
  obtain ⟨⟨mN, cN, N90⟩, ⟨mK, cK, K1, K60⟩, ⟨mT, cT, T10⟩, ⟨cZ, Z150⟩, ⟨⟨c11, c12, c13⟩, F90, c4⟩, ⟨hO, hpR, hpO, hoO⟩, ⟨c8, c9, L0, L90⟩, ⟨hc, hC⟩, hst2, htp⟩ := id hX
  obtain ⟨⟨hInv, hsc, hnc, hns⟩, hTk, hm7, hm8⟩ := id hA
  have hok := hInv.1
  have hM := hok.1
  have hCR := hT.1
  have hcT := hCR.2.1
  have hcS := hCR.2.2.1
  have hcK := hCR.2.2.2.1
  have hcL := hCR.2.2.2.2.1
  have hst3 : ∀ t : Nat, (t : Int) < m 1 → 0 ≤ m (258 + 14 * t) ∧ m (258 + 14 * t) ≤ 2 := fun t ht => (hst2 t ht).1
  rcases id hke with ⟨rfl, e4⟩ | ⟨w2, c2, C2, nm2, g2, ⟨rfl, e4⟩, ⟨w3, w4⟩, w5, w6, w7⟩
  · have hokk : mOk kpm := by
      rcases hkp.1 with k | k
      · exact k.2
      · omega
    refine TWO.ask (z := .int (J (-3))) (Nat.le_of_ble_eq_true rfl) (Nat.le_of_ble_eq_true rfl) ⟨_, rfl⟩ hCH hMH hSO hSZ ((kg_undoN 0 hK hc hC).mono (fun v h' q0 => ?_)) (fun h1 f8 f9 f10 f11 f12 f13 f14 f16 was pln s r14 r11 hB => (m_undo 0 hB (Or.inl e4) hokk).mono (fun v h2 q0 => ?_))
    · exact q0
    · rcases q0 with ⟨-, q1⟩ | ⟨q1, -⟩
      · exact q1
      · omega
  · have gw2 := w6.gx
    obtain ⟨hAk, h8k⟩ := hkp.2 e4
    have hokk := hAk.1.1.1
    refine TWO.of (dm := 1000) (z := .int (J (cnt (heldB kpm) (kpm 1).toNat))) (f4' := f4) (m' := kpm) (kpm' := kpm) (pool' := pool) (zt' := zt) (ft' := ft) (f18' := f18) (pap' := pap) (rwd' := rwd) (rw' := rw) (Nat.le_of_ble_eq_true rfl) (Nat.le_of_ble_eq_true rfl) ⟨_, rfl⟩ hSZ hMH ((kg_undo 13 hK hc hC (n1 := cnt (heldB kpm) (kpm 1).toNat) (R := fun h' => (∃ c' C' nm' g', isW h' (rA (kA x 8) 1) c' C' nm' g' ∧ CTR kpm pool S c' C' nm' g') ∧ Same (wBlk (rA (kA x 8) 1)) h h') ((ctr_become 24 hK.w ⟨hc, hC⟩ w6 (Or.inl (by unfold rA kA; omega)) w7 hokk hAk.2.1).mono (fun v h' q => q)) (fun h' k => k.2.2.2.2 x (by unfold wBlk rA kA; omega)) (fun h' k => by obtain ⟨⟨c', C', nm', g', k1, k2⟩, -⟩ := k; exact ⟨_, k1.gx⟩) gw2 (fun h' k => by obtain ⟨⟨c', C', nm', g', k1, k2⟩, -⟩ := k; exact kg_held 23 k1 k2 hAk)).mono (fun v h' q0 => ?_)) (fun h1 hM1 => ?_) ?_
    · obtain ⟨q1, ⟨c3, C3, nm3, g3, k6, k7⟩, k8⟩ := q0
      exact ⟨q1, CP.of hxy (same_kw k8) (hK.ofW k8 k6) k7 hst hke htk hro hpa⟩
    · obtain ⟨f14, f16, was, pln, r14, f8, f9, f10, f11, f12, f13, s, r11, hB⟩ := id hM1
      refine ((m_undo 0 hB (Or.inr e4) hokk).deeper (Nat.le_of_ble_eq_true rfl)).mono (fun v h2 q0 => ?_)
      rcases q0 with ⟨q1, -⟩ | ⟨-, q1, q2, q3⟩
      · omega
      · exact ⟨q1, ⟨f14, f16, was, pln, r14, q2.isMs r11⟩, q3⟩
    · obtain ⟨⟨u1, u2⟩, ⟨u3, u4⟩, u5⟩ := hSO.up
      exact ⟨⟨(u4 e4).1, u2⟩, ⟨u3, fun _ => ⟨(u4 e4).1, Int.le_refl _⟩⟩, u5⟩

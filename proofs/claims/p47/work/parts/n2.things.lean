/-! ===== a thing, its state, owner and place ===== -/
/-- a thing's figures: state, owner, place in the log -/
def thgV (m : Nat → Int) (a i : Int) : Int := if 0 ≤ a ∧ a ≤ m 1 - 1 then (if i = 0 then (if m (258 + 14 * a.toNat) = 0 then 0 else 1) else if i = 1 then m (259 + 14 * a.toNat) else m (264 + 14 * a.toNat)) else -1
set_option maxHeartbeats 4000000 in
set_option maxRecDepth 100000 in
theorem oa_thing {G : mG} {l : Launch} {x y n0 : Nat} {h : mH} {f4 : Int} {m kpm pool : Nat → Int} {zt : Int} {ft : Nat → Int} (hI : RO x y n0 f4 m kpm pool zt ft h) {a : Int} (ha : InR a) {i : Int} (hi : 0 ≤ i ∧ i ≤ 2) : RUNM G l 1000 mX10_thing [.ref x, .int (J a), .int (J i)] h (fun v h' => v = some (.int (J (thgV m a i))) ∧ h' = h) := by
  obtain ⟨f18, pap, rwd, rw, hCH, hSO⟩ := hI
  obtain ⟨S, kp, tk, zr, fr, p, e, o, zs, fs, b, fa, c, C, nm, g, hK, ⟨hT, hst, hke, htk⟩, hro, hpa, hxy⟩ := id hCH
  obtain ⟨⟨hA, hPo⟩, hkp, hta, h18, hrw⟩ := id hSO
  obtain ⟨N, K, T, Z, F, hX⟩ := fx_of hT hA
  obtain ⟨⟨mN, cN, N90⟩, ⟨mK, cK, K1, K60⟩, ⟨mT, cT, T10⟩, ⟨cZ, Z150⟩, ⟨⟨c11, c12, c13⟩, F90, c4⟩, ⟨hO, hpR, hpO, hoO⟩, ⟨c8, c9, L0, L90⟩, ⟨hc, hC⟩, hst2, htp⟩ := id hX
  obtain ⟨⟨hInv, hsc, hnc, hns⟩, hTk, hm7, hm8⟩ := id hA
  have hok := hInv.1
  have hM := hok.1
  have hCR := hT.1
  have hcT := hCR.2.1
  have hcS := hCR.2.2.1
  have hcK := hCR.2.2.2.1
  have hcL := hCR.2.2.2.2.1
  have hst3 : ∀ t : Nat, (t : Int) < m 1 → 0 ≤ m (258 + 14 * t) ∧ m (258 + 14 * t) ≤ 2 := fun t ht => (hst2 t ht).1
  have eN : (m 1).toNat = N := by omega
  have eK : (m 0).toNat = K := by omega
  have eT : (m 3).toNat = T := by omega
  have hch : ∃ m1, (inW c 0 90 a → chL (hGet h) m1 (g (2 * a.toNat))) ∧ m1 ≤ 1000 := by
    by_cases w : inW c 0 90 a
    · obtain ⟨P, E, e1, e2, tp⟩ := hCR.2.2.2.2.2.2.2.1 a.toNat (by omega)
      obtain ⟨k, k1, k2⟩ := tpO_ch tp
      obtain ⟨-, -, -, P2, E2, p1, p2, tx⟩ := hInv.2.2.1 a.toNat (by omega)
      have := tx.2.1
      exact ⟨k, fun _ => chL_mono hst.hS k _ k1, by omega⟩
    · exact ⟨0, fun z => absurd z w, by omega⟩
  obtain ⟨m1, hr, hm⟩ := hch
  refine RUNM.deeper (Nat.le_of_ble_eq_true rfl) ((kg_thing 0 hK hc hC ha (i := i) ⟨by omega, by omega⟩ hr hm).mono (fun v h' q0 => ⟨q0.1.trans ?_, q0.2⟩))
  congr 3
  unfold thgV
  by_cases w : 0 ≤ a ∧ a ≤ m 1 - 1
  · rw [if_pos w, if_pos ⟨by omega, by omega, by omega⟩]
    obtain ⟨q, rfl⟩ : ∃ q : Nat, a = q := ⟨a.toNat, by omega⟩
    obtain ⟨s1, s2, s3⟩ := hcT q (by omega)
    have s4 := hst3 q (by omega)
    have s5 := hnc q (by omega)
    rw [show ((q : Int)).toNat = q by omega, s1, s2, s3.1]
    have s6 : swT (m (258 + 14 * q)) = if m (258 + 14 * q) = 0 then 0 else 1 := by
      unfold swT
      (repeat' split) <;> omega
    rw [s6]
    (repeat' split) <;> first | rfl | omega
  · rw [if_neg w, if_neg (fun z => w ⟨by omega, by omega⟩)]

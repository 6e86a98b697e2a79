/-! ===== what is spelled, whatever it is, on both ===== -/
theorem naL_le {sr : Nat → Int} : ∀ (n p : Nat) (v : Int), 0 ≤ v → 0 ≤ naL sr n p v ∧ naL sr n p v < (v + 1) * tenP n
  | 0, p, v, h => by unfold naL tenP; omega
  | n + 1, p, v, h => by
    have t := tenP_1 n
    unfold naL
    split
    · rename_i c
      have ih := naL_le (sr := sr) n (p + 1) (10 * v + sr p - 48) (by omega)
      refine ⟨ih.1, Int.lt_of_lt_of_le ih.2 ?_⟩
      show (10 * v + sr p - 48 + 1) * tenP n ≤ (v + 1) * (10 * tenP n)
      rw [← Int.mul_assoc]
      exact Int.mul_le_mul_of_nonneg_right (by omega) (by omega)
    · refine ⟨h, ?_⟩
      have h1 : 1 ≤ tenP (n + 1) := tenP_1 (n + 1)
      have h2 : (v + 1) * 1 ≤ (v + 1) * tenP (n + 1) := Int.mul_le_mul_of_nonneg_left h1 (by omega)
      omega
theorem naL_6 {sr : Nat → Int} {n p : Nat} (hn : n ≤ 5) : rng6 (naL sr n p 0) := by
  have y := naL_le (sr := sr) n p 0 (by decide)
  have t : tenP n ≤ 100000 := by
    match n, hn with
    | 0, _ => decide
    | 1, _ => decide
    | 2, _ => decide
    | 3, _ => decide
    | 4, _ => decide
    | 5, _ => decide
  exact ⟨by omega, by omega⟩
theorem sgV_6 {sr : Nat → Int} {p : Nat} : rng6 (sgV sr p) := by
  unfold sgV
  split
  · have y := naL_6 (sr := sr) (n := 5) (p := p + 1) (by decide)
    exact ⟨by omega, by omega⟩
  · exact naL_6 (by decide)
section WX
variable {S : Nat → Option mO} {sr : Nat → Int}
theorem stA_wX {cl : Nat → Nat → Nat → Nat → Prop} {a hi p e : Nat} {nx : Option Nat} (hsr : ∀ q, 0 ≤ sr q ∧ sr q ≤ 127) (hcl : ∀ b q r, cl b hi q r → ∀ F t, 2 * (r - q) + 2 ≤ F → ∃ L, wX S F true t b L) (k : stA S sr cl a nx hi p e) : ∀ F t, 2 * (e - p) + 1 ≤ F → ∃ L, wX S F false t a L := by
  intro F t hF
  obtain ⟨F, rfl⟩ : ∃ F', F = F' + 1 := ⟨F - 1, by omega⟩
  by_cases h8 : 8 < t
  · exact ⟨[], Or.inl ⟨h8, rfl⟩⟩
  obtain ⟨-, num, vl, y, inn, hS, k⟩ := k
  have hk : InR (sr p) := by have := hsr p; exact ⟨by omega, by omega⟩
  have h1 := hsr (p + 1)
  rcases k with ⟨c, c1, c2, c3, rfl, rfl⟩ | ⟨c, c1, rfl⟩ | ⟨c, q, c1, rfl, c2⟩ | ⟨c, c1, rfl⟩ | ⟨c, q, c1, c2, c3, rfl, rfl⟩ | ⟨c, c1, c2, rfl⟩ | ⟨c, c1⟩
  · exact ⟨_, Or.inr ⟨by omega, sr p, _, _, _, _, _, hS, hk, ⟨(fun _ => ⟨⟨⟨by omega, by omega⟩, sgV_6⟩, rfl⟩), (fun z => by exfalso; omega), (fun z => by exfalso; omega), (fun z => by exfalso; omega), (fun z => by exfalso; omega), (fun z => by exfalso; omega), (fun z1 z2 z3 z4 z5 z6 z7 => by exfalso; omega)⟩⟩⟩
  · exact ⟨_, Or.inr ⟨by omega, sr p, _, _, _, _, _, hS, hk, ⟨(fun z => by exfalso; omega), (fun _ => ⟨naL_6 (by decide), rfl⟩), (fun z => by exfalso; omega), (fun z => by exfalso; omega), (fun z => by exfalso; omega), (fun z => by exfalso; omega), (fun z1 z2 z3 z4 z5 z6 z7 => by exfalso; omega)⟩⟩⟩
  · obtain ⟨d1, d2, -⟩ := c1
    rcases c2 with ⟨rfl, -, rfl⟩ | ⟨-, r, b, e1, e2, -, rfl, rfl, -⟩
    · exact ⟨_, Or.inr ⟨by omega, sr p, _, _, _, _, _, hS, hk, ⟨(fun z => by exfalso; omega), (fun z => by exfalso; omega), (fun _ => Or.inl ⟨rfl, rfl⟩), (fun z => by exfalso; omega), (fun z => by exfalso; omega), (fun z => by exfalso; omega), (fun z1 z2 z3 z4 z5 z6 z7 => by exfalso; omega)⟩⟩⟩
    · obtain ⟨L2, hL⟩ := hcl b (q + 1) r e1 F (t + 1) (by omega)
      exact ⟨_, Or.inr ⟨by omega, sr p, _, _, _, _, _, hS, hk, ⟨(fun z => by exfalso; omega), (fun z => by exfalso; omega), (fun _ => Or.inr ⟨b, L2, rfl, hL, rfl⟩), (fun z => by exfalso; omega), (fun z => by exfalso; omega), (fun z => by exfalso; omega), (fun z1 z2 z3 z4 z5 z6 z7 => by exfalso; omega)⟩⟩⟩
  · exact ⟨_, Or.inr ⟨by omega, sr p, _, _, _, _, _, hS, hk, ⟨(fun z => by exfalso; omega), (fun z => by exfalso; omega), (fun z => by exfalso; omega), (fun _ => rfl), (fun z => by exfalso; omega), (fun z => by exfalso; omega), (fun z1 z2 z3 z4 z5 z6 z7 => by exfalso; omega)⟩⟩⟩
  · exact ⟨_, Or.inr ⟨by omega, sr p, _, _, _, _, _, hS, hk, ⟨(fun z => by exfalso; omega), (fun z => by exfalso; omega), (fun z => by exfalso; omega), (fun z => by exfalso; omega), (fun _ => ⟨naL_6 (by decide), rfl⟩), (fun z => by exfalso; omega), (fun z1 z2 z3 z4 z5 z6 z7 => by exfalso; omega)⟩⟩⟩
  · exact ⟨_, Or.inr ⟨by omega, sr p, _, _, _, _, _, hS, hk, ⟨(fun z => by exfalso; omega), (fun _ => ⟨⟨by omega, by omega⟩, rfl⟩), (fun z => by exfalso; omega), (fun z => by exfalso; omega), (fun z => by exfalso; omega), (fun z => by exfalso; omega), (fun z1 z2 z3 z4 z5 z6 z7 => by exfalso; omega)⟩⟩⟩
  · exact ⟨_, Or.inr ⟨by omega, sr p, _, _, _, _, _, hS, hk, ⟨(fun z => by exfalso; omega), (fun z => by exfalso; omega), (fun z => by exfalso; omega), (fun z => by exfalso; omega), (fun z => by exfalso; omega), (fun z => by exfalso; omega), (fun _ _ _ _ _ _ _ => rfl)⟩⟩⟩
theorem stQ_wX {cl : Nat → Nat → Nat → Nat → Prop} {a hi p e : Nat} {nx : Option Nat} (hsr : ∀ q, 0 ≤ sr q ∧ sr q ≤ 127) (hcl : ∀ b q r, cl b hi q r → ∀ F t, 2 * (r - q) + 2 ≤ F → ∃ L, wX S F true t b L) (k : stQ S sr cl a nx hi p e) : ∀ F t, 2 * (e - p) + 1 ≤ F → ∃ L, wX S F false t a L := by
  rcases k with k | ⟨-, c, c1, c2, q, b, y, nx2, hS, c3, c4, -, k⟩
  · exact stA_wX hsr hcl k
  · intro F t hF
    obtain ⟨F, rfl⟩ : ∃ F', F = F' + 1 := ⟨F - 1, by omega⟩
    by_cases h8 : 8 < t
    · exact ⟨[], Or.inl ⟨h8, rfl⟩⟩
    have c5 := sgnS_lt c3
    have c6 := stepT_lt (stA_t (st := fun _ _ => True) (fun _ _ _ _ => trivial) k)
    obtain ⟨L2, hL⟩ := stA_wX hsr hcl k F (t + 1) (by omega)
    have h1 := hsr (p + 1)
    exact ⟨_, Or.inr ⟨by omega, 63, _, _, _, _, _, hS, by decide, ⟨(fun z => by exfalso; omega), (fun z => by exfalso; omega), (fun z => by exfalso; omega), (fun z => by exfalso; omega), (fun z => by exfalso; omega), (fun _ => ⟨⟨⟨by omega, by omega⟩, sgV_6⟩, b, L2, rfl, hL, rfl⟩), (fun z1 z2 z3 z4 z5 z6 z7 => by exfalso; omega)⟩⟩⟩
theorem stL_wX (hsr : ∀ q, 0 ≤ sr q ∧ sr q ≤ 127) : ∀ (n : Nat) (it : Bool) (o a hi p E : Nat), stL S sr n it o a hi p E → ∀ F t, 2 * (E - p) + 2 ≤ F → ∃ L, wX S F true t a L
  | 0, _, _, _, _, _, _, h => h.elim
  | n + 1, it, o, a, hi, p, E, h => by
    intro F t hF
    obtain ⟨F, rfl⟩ : ∃ F', F = F' + 1 := ⟨F - 1, by omega⟩
    obtain ⟨nx, mid, e, o', h1, h2, h3, h4⟩ := h
    obtain ⟨⟨kd, num, vl, y, inn, h5⟩, h6⟩ := stK_o h1
    have st : ∀ F t, 2 * (e - p) + 1 ≤ F → ∃ L, wX S F false t a L := by
      rcases h1 with ⟨k, -⟩ | ⟨-, -, c, -, -, num, vl, y, inn, hS⟩ | ⟨-, -, c, -, -, num, vl, y, inn, hS⟩
      · exact stQ_wX hsr (fun b q r z F t hF => stL_wX hsr n false 0 b _ q r z F t hF) k
      all_goals
        intro F t hF
        obtain ⟨F, rfl⟩ : ∃ F', F = F' + 1 := ⟨F - 1, by omega⟩
        by_cases h8 : 8 < t
        · exact ⟨[], Or.inl ⟨h8, rfl⟩⟩
        · exact ⟨_, Or.inr ⟨by omega, _, _, _, _, _, _, hS, by decide, ⟨(fun z => by exfalso; omega), (fun z => by exfalso; omega), (fun z => by exfalso; omega), (fun z => by exfalso; omega), (fun z => by exfalso; omega), (fun z => by exfalso; omega), (fun _ _ _ _ _ _ _ => rfl)⟩⟩⟩
    rcases h4 with ⟨rfl, rfl⟩ | ⟨h7, -, b, rfl, -, h8⟩
    · obtain ⟨L1, w1⟩ := st F t (by omega)
      exact ⟨_, kd, num, vl, y, inn, none, L1, h5, w1, Or.inl ⟨rfl, rfl⟩⟩
    · obtain ⟨L1, w1⟩ := st F t (by omega)
      obtain ⟨L2, w2⟩ := stL_wX hsr n it o' b hi (e + 1) E h8 F t (by omega)
      exact ⟨_, kd, num, vl, y, inn, some b, L1, h5, w1, Or.inr ⟨b, L2, rfl, w2, rfl⟩⟩
end WX
section JD
variable {sg : Bool} {G : mG} {l : Launch} {x y n : Nat} {h : mH}
theorem JUD.of {f4 : Int} {m kpm pool : Nat → Int} {zt : Int} {ft : Nat → Int} {f18 : Int} {pap rwd rw : Nat → Int} {Mc Mm : mM} {args : List Value} {dc dm : Nat} (hdc : dc ≤ 1000) (hdm : dm ≤ 1000) {f4' : Int} {m' kpm' pool' : Nat → Int} {zt' : Int} {ft' : Nat → Int} {f18' : Int} {pap' rwd' rw' : Nat → Int} (hz : SZ y n h) (hM : MH y f4 m kpm pool zt ft f18 pap rwd rw h)
    (hc : RUNM G l dc Mc (.ref x :: args) h (fun v h1 => (∃ w, v = some (.int w)) ∧ CP sg x y f4' m' kpm' pool' zt' ft' f18' pap' rwd' rw' h h1))
    (hm : ∀ h1 : mH, h1.1 = h.1 → (∀ b, mBlk y b → hGet h1 b = hGet h b) → RUNM G l dm Mm (.ref y :: args) h1 (fun v h2 => (∃ w, v = some (.int w)) ∧ MH y f4' m' kpm' pool' zt' ft' f18' pap' rwd' rw' h2 ∧ Same (mBlk y) h1 h2))
    (hs : SO (n + 1) f4' m' kpm' pool' zt' ft' f18' rwd' rw') : JUD sg G l x y n Mc Mm args h := by
  refine (hc.deeper hdc).mono (fun v h1 q => ?_)
  obtain ⟨⟨w, q1⟩, q2, ⟨q3, q4⟩, q5, q6⟩ := q
  refine ⟨w, q1, MDL.of q3 q4 hM, ((hm h1 q3 (fun b hb => q4 b (Or.inl hb))).deeper hdm).mono (fun v2 h2 r => ?_)⟩
  obtain ⟨⟨w2, r1⟩, r2, r3⟩ := r
  have e1 := r3.2.1
  have e2 := r3.2.2.1
  obtain ⟨z1, z2⟩ := hz
  have xy := q2.xy
  exact ⟨w2, r1, ⟨f4', m', kpm', pool', zt', ft', f18', pap', rwd', rw', q2.kp (Old.of r3), r2, hs, by omega, by omega⟩, r3.1.trans q3, fun q hq => (r3.2.2.2 q (by unfold mBlk; omega)).trans (q4 q (Or.inr hq))⟩
set_option maxHeartbeats 4000000 in
set_option maxRecDepth 100000 in
theorem cs_stepsW {S : Nat → Option mO} {h0 : mH} {a : Nat} (hS : ∀ q o, S q = some o → hGet h0 q = some o) (hSd : ∀ q, ¬ S q = none → ¬ dBlk a q) {n t q : Nat} {L : List Int} (ht : t ≤ 9) (hX : wX S n true t q L) {h : mH} {s : (Nat → Int) × Int} (hs : Same (dBlk a) h0 h) (I : isSs h a s) : RUNM G l (3 * n + 6) mX5_writeSteps [.ref a, .ref q, .int (J (t : Int))] h (fun v h' => v = none ∧ isSs h' a (apS s L) ∧ Same (dBlk a) h h') := by
  refine RUNM.of (by decide +kernel) (Nat.le_of_ble_eq_true rfl) ?_
  refine r_aload_n (pc := 0) dX5_writeSteps_0 rfl (by first | rfl | exact isRefV_rf _) ?_
  refine r_astore_n (pc := 1) dX5_writeSteps_1 (Nat.le_of_ble_eq_true rfl) (by first | rfl | exact isRefV_rf _) ?_
  dsimp only [lsSt, List.set, mLs, mEnt]
  exact (cs_X hS hSd n).2 t q q L ht hX h s hs I
/-- what the speller writes of what lies at r -/
theorem write_any {S : Nat → Option mO} {sr : Nat → Int} (hsr : ∀ q, 0 ≤ sr q ∧ sr q ≤ 127) {h0 : mH} {a : Nat} {z : Int} {f : Nat → Int} (hS : ∀ q o, S q = some o → hGet h0 q = some o) (hSd : ∀ q, ¬ S q = none → ¬ dBlk a q) (I0 : isSp h0 a z f) {r : Option Nat} {P E : Nat} (hE : E ≤ P + 120) (ht : (P = E ∧ r = none) ∨ (∃ it o b hi n, r = some b ∧ stL S sr n it o b hi P E)) : ∃ s : (Nat → Int) × Int, shOk s ∧ RUNM G l 750 mX5_write [.ref a, va_rf r] h0 (fun v h' => v = some (.int (J s.2)) ∧ isSs h' a s ∧ Same (dBlk a) h0 h') := by
  rcases ht with ⟨-, rfl⟩ | ⟨it, o, b, hi, n, rfl, hL⟩
  · exact ⟨(f, 0), (show (0 : Int) ≤ 0 ∧ (0 : Int) ≤ 120 by decide), (cs_write0 749 I0)⟩
  · obtain ⟨L, hX⟩ := stL_wX hsr n it o b hi P E hL 242 0 (by omega)
    refine ⟨apS (f, 0) L, apS_ok _ _ (show (0 : Int) ≤ 0 ∧ (0 : Int) ≤ 120 by decide), cs_write1 749 I0 (fun h1 k1 k2 => (cs_stepsW hS hSd (t := 0) (by decide) hX k1 k2).deeper (by decide))⟩
end JD

set_option maxHeartbeats 4000000 in
set_option maxRecDepth 100000 in
theorem jud_spell {G : mG} {l : Launch} (hG : G.2.map Prod.snd = mTy) {x y n0 : Nat} {h : mH} (hn0 : n0 ≤ 600) (hI : RI false x y n0 h) {a : Int} (ha : InR a) : JUD false G l x y n0 mX10_spell mX11_spell [.int (J a)] h := by
  obtain ⟨f4, m, kpm, pool, zt, ft, f18, pap, rwd, rw, hCH, hMH, hSO, hSZ⟩ := hI
  obtain ⟨S, kp, tk, zr, fr, p, e, o, zs, fs, b, fa, c, C, nm, g, hK, ⟨hT, hst, hke, htk⟩, hro, hpa, hxy⟩ := id hCH
  obtain ⟨⟨hA, hPo⟩, hkp, hta, h18, hrw⟩ := id hSO
  obtain ⟨N, K, T, Z, F, hX⟩ := fx_of hT hA
  obtain ⟨⟨mN, cN, N90⟩, ⟨mK, cK, K1, K60⟩, ⟨mT, cT, T10⟩, ⟨cZ, Z150⟩, ⟨⟨c11, c12, c13⟩, F90, c4⟩, ⟨hO, hpR, hpO, hoO⟩, ⟨c8, c9, L0, L90⟩, ⟨hc, hC⟩, hst2, htp⟩ := id hX
  obtain ⟨⟨hInv, hsc, hnc, hns⟩, hTk, hm7, hm8⟩ := id hA
  have hok := hInv.1
  have hM := hok.1
  have hCR := hT.1
  have hcT := hCR.2.1
  have hcS := hCR.2.2.1
  have hcK := hCR.2.2.2.1
  have hcL := hCR.2.2.2.2.1
  have hst3 : ∀ t : Nat, (t : Int) < m 1 → 0 ≤ m (258 + 14 * t) ∧ m (258 + 14 * t) ≤ 2 := fun t ht => (hst2 t ht).1
  obtain ⟨f14, f16, was, pln, r14, f8, f9, f10, f11, f12, f13, s, r11, hB0⟩ := id hMH
  have hSd : ∀ q, ¬ S q = none → ¬ dBlk (kA x 4) q := fun q e z => by
    cases k : S q with
    | none => exact e k
    | some o => have := (hst q o k).2.1; unfold dBlk kA at z; omega
  by_cases w : 0 ≤ a ∧ a ≤ m 1 - 1
  · obtain ⟨q, rfl⟩ : ∃ q : Nat, a = q := ⟨a.toNat, by omega⟩
    obtain ⟨P, E, e1, e2, tp⟩ := hCR.2.2.2.2.2.2.2.1 q (by omega)
    obtain ⟨-, -, -, P2, E2, p1, p2, tx⟩ := hInv.2.2.1 q (by omega)
    obtain rfl : P2 = P := by omega
    obtain rfl : E2 = E := by omega
    have t1 := tx.1
    have t2 := tx.2.1
    have t3 := tx.le hInv.2.1.2.2
    have mn : minOk pool P2 E2 := by
      rcases tx.2.2 with ⟨z, -⟩ | ⟨-, nn, z⟩
      · intro j h1 h2; omega
      · exact fun j h1 h2 => min_C nn P2 E2 z j h1 h2
    obtain ⟨s2, s3, W⟩ := write_any (G := G) (l := l) hPo hst.hS hSd hK.s (r := g (2 * q)) (P := P2) (E := E2) (by omega) (tp.elim Or.inl (fun ⟨b, hi, n, k1, k2⟩ => Or.inr ⟨false, 0, b, hi, n, k1, k2⟩))
    have sp1 := spS_w (pool := pool) (to := E2) (E2 - P2) P2 false pap 0
    refine JUD.of (dm := 1000) (dc := 751) (f4' := f4) (m' := m) (kpm' := kpm) (pool' := pool) (zt' := zt) (ft' := ft) (f18' := ((spS pool E2 (E2 - P2) P2 false pap 0).2 : Int)) (pap' := (spS pool E2 (E2 - P2) P2 false pap 0).1) (rwd' := rwd) (rw' := rw) (Nat.le_of_ble_eq_true rfl) (Nat.le_of_ble_eq_true rfl) hSZ hMH ((kg_spell 737 hK hc hC ha (n1 := s2.2) (R := fun h' => isSs h' (kA x 4) s2 ∧ Same (dBlk (kA x 4)) h h') (fun _ => by rw [show ((q : Int)).toNat = q by omega]; exact W)).mono (fun v h' q0 => ?_)) (fun h1 m1e m1s => ?_) ?_
    · rcases q0 with ⟨q1, -⟩ | ⟨-, q1, q2, q3⟩
      · exfalso; omega
      · exact ⟨⟨_, q1⟩, CP.of hxy (same_ks q3) (hK.ofS q3 q2.1) hT hst hke htk hro ⟨s3, fun z => by cases z⟩⟩
    · have hB := hB0.kq m1e m1s
      refine ((m_spell (P := P2) (E := E2) 0 hB hok hPo.r ha (fun _ => ⟨by rw [show ((262 : Int) + 14 * (q : Int)).toNat = 262 + 14 * q by omega]; exact p1, by rw [show ((263 : Int) + 14 * (q : Int)).toNat = 263 + 14 * q by omega]; exact p2, by omega, t1, by omega, mn⟩)).deeper (Nat.le_of_ble_eq_true rfl)).mono (fun v h2 q0 => ?_)
      rcases q0 with ⟨q1, -⟩ | ⟨-, q1, q2, q3⟩
      · exact absurd w q1
      · exact ⟨⟨_, q1⟩, ⟨f14, f16, was, pln, r14, q2.isMs r11⟩, q3⟩
    · obtain ⟨u1, u2, u3, -, u5⟩ := hSO.up
      exact ⟨u1, u2, u3, ⟨by omega, by omega⟩, u5⟩
  · refine JUD.of (dm := 1000) (dc := 14) (f4' := f4) (m' := m) (kpm' := kpm) (pool' := pool) (zt' := zt) (ft' := ft) (f18' := f18) (pap' := pap) (rwd' := rwd) (rw' := rw) (Nat.le_of_ble_eq_true rfl) (Nat.le_of_ble_eq_true rfl) hSZ hMH ((kg_spell 0 hK hc hC ha (n1 := 0) (R := fun _ => True) (fun z => absurd z (by omega))).mono (fun v h' q0 => ?_)) (fun h1 m1e m1s => ?_) hSO.up
    · rcases q0 with ⟨-, q1, rfl⟩ | ⟨q1, -⟩
      · exact ⟨⟨_, q1⟩, CP.rf hCH⟩
      · exfalso; omega
    · have hB := hB0.kq m1e m1s
      refine ((m_spell (P := 0) (E := 0) 0 hB hok hPo.r ha (fun z => absurd z w)).deeper (Nat.le_of_ble_eq_true rfl)).mono (fun v h2 q0 => ?_)
      rcases q0 with ⟨-, q1, rfl⟩ | ⟨q1, -⟩
      · exact ⟨⟨_, q1⟩, hMH.kp m1e m1s, Same.refl⟩
      · exact absurd q1 w

set_option maxHeartbeats 4000000 in
set_option maxRecDepth 100000 in
theorem jud_spellTask {G : mG} {l : Launch} (hG : G.2.map Prod.snd = mTy) {x y n0 : Nat} {h : mH} (hn0 : n0 ≤ 600) (hI : RI false x y n0 h) {a : Int} (ha : InR a) : JUD false G l x y n0 mX10_spellTask mX11_spellTask [.int (J a)] h := by
  obtain ⟨f4, m, kpm, pool, zt, ft, f18, pap, rwd, rw, hCH, hMH, hSO, hSZ⟩ := hI
  obtain ⟨S, kp, tk, zr, fr, p, e, o, zs, fs, b, fa, c, C, nm, g, hK, ⟨hT, hst, hke, htk⟩, hro, hpa, hxy⟩ := id hCH
  obtain ⟨⟨hA, hPo⟩, hkp, hta, h18, hrw⟩ := id hSO
  obtain ⟨N, K, T, Z, F, hX⟩ := fx_of hT hA
  obtain ⟨⟨mN, cN, N90⟩, ⟨mK, cK, K1, K60⟩, ⟨mT, cT, T10⟩, ⟨cZ, Z150⟩, ⟨⟨c11, c12, c13⟩, F90, c4⟩, ⟨hO, hpR, hpO, hoO⟩, ⟨c8, c9, L0, L90⟩, ⟨hc, hC⟩, hst2, htp⟩ := id hX
  obtain ⟨⟨hInv, hsc, hnc, hns⟩, hTk, hm7, hm8⟩ := id hA
  have hok := hInv.1
  have hM := hok.1
  have hCR := hT.1
  have hcT := hCR.2.1
  have hcS := hCR.2.2.1
  have hcK := hCR.2.2.2.1
  have hcL := hCR.2.2.2.2.1
  have hst3 : ∀ t : Nat, (t : Int) < m 1 → 0 ≤ m (258 + 14 * t) ∧ m (258 + 14 * t) ≤ 2 := fun t ht => (hst2 t ht).1
  obtain ⟨f14, f16, was, pln, r14, f8, f9, f10, f11, f12, f13, s, r11, hB0⟩ := id hMH
  have hSd : ∀ q, ¬ S q = none → ¬ dBlk (kA x 4) q := fun q e z => by
    cases k : S q with
    | none => exact e k
    | some o => have := (hst q o k).2.1; unfold dBlk kA at z; omega
  by_cases w : 0 ≤ a ∧ a ≤ m 3 - 1
  · obtain ⟨q, rfl⟩ : ∃ q : Nat, a = q := ⟨a.toNat, by omega⟩
    obtain ⟨-, -, -, -, -, -, b1, hi1, n1, P, E, e1, e2, e3, e4⟩ := (hT.2.2 q (by omega)).1
    obtain ⟨-, -, -, -, -, -, -, -, P2, E2, p1, p2, p0, p4, p3, nn, pt⟩ := (hTk.2 q (by omega)).1
    obtain rfl : P2 = P := by omega
    obtain rfl : E2 = E := by omega
    have t3 := hInv.2.1.2.2
    have mn : minOk pool P2 E2 := fun j h1 h2 => min_K nn 0 P2 E2 pt j h1 h2
    obtain ⟨s2, s3, W⟩ := write_any (G := G) (l := l) hPo hst.hS hSd hK.s (r := g (180 + 2 * q)) (P := P2) (E := E2) (by omega) (Or.inr ⟨true, 0, b1, hi1, n1, e3, e4⟩)
    have sp1 := spS_w (pool := pool) (to := E2) (E2 - P2) P2 false pap 0
    refine JUD.of (dm := 1000) (dc := 751) (f4' := f4) (m' := m) (kpm' := kpm) (pool' := pool) (zt' := zt) (ft' := ft) (f18' := ((spS pool E2 (E2 - P2) P2 false pap 0).2 : Int)) (pap' := (spS pool E2 (E2 - P2) P2 false pap 0).1) (rwd' := rwd) (rw' := rw) (Nat.le_of_ble_eq_true rfl) (Nat.le_of_ble_eq_true rfl) hSZ hMH ((kg_spellTask 737 hK hc hC ha (n1 := s2.2) (R := fun h' => isSs h' (kA x 4) s2 ∧ Same (dBlk (kA x 4)) h h') (fun _ => by rw [show ((q : Int)).toNat = q by omega]; exact W)).mono (fun v h' q0 => ?_)) (fun h1 m1e m1s => ?_) ?_
    · rcases q0 with ⟨q1, -⟩ | ⟨-, q1, q2, q3⟩
      · exfalso; omega
      · exact ⟨⟨_, q1⟩, CP.of hxy (same_ks q3) (hK.ofS q3 q2.1) hT hst hke htk hro ⟨s3, fun z => by cases z⟩⟩
    · have hB := hB0.kq m1e m1s
      refine ((m_spellTask (P := P2) (E := E2) 0 hB hok hPo.r ha (fun _ => ⟨by rw [show ((1616 : Int) + 72 * (q : Int)).toNat = 1616 + 72 * q by omega]; exact p1, by rw [show ((1617 : Int) + 72 * (q : Int)).toNat = 1617 + 72 * q by omega]; exact p2, by omega, by omega, by omega, mn⟩)).deeper (Nat.le_of_ble_eq_true rfl)).mono (fun v h2 q0 => ?_)
      rcases q0 with ⟨q1, -⟩ | ⟨-, q1, q2, q3⟩
      · exact absurd w q1
      · exact ⟨⟨_, q1⟩, ⟨f14, f16, was, pln, r14, q2.isMs r11⟩, q3⟩
    · obtain ⟨u1, u2, u3, -, u5⟩ := hSO.up
      exact ⟨u1, u2, u3, ⟨by omega, by omega⟩, u5⟩
  · refine JUD.of (dm := 1000) (dc := 14) (f4' := f4) (m' := m) (kpm' := kpm) (pool' := pool) (zt' := zt) (ft' := ft) (f18' := f18) (pap' := pap) (rwd' := rwd) (rw' := rw) (Nat.le_of_ble_eq_true rfl) (Nat.le_of_ble_eq_true rfl) hSZ hMH ((kg_spellTask 0 hK hc hC ha (n1 := 0) (R := fun _ => True) (fun z => absurd z (by omega))).mono (fun v h' q0 => ?_)) (fun h1 m1e m1s => ?_) hSO.up
    · rcases q0 with ⟨-, q1, rfl⟩ | ⟨q1, -⟩
      · exact ⟨⟨_, q1⟩, CP.rf hCH⟩
      · exfalso; omega
    · have hB := hB0.kq m1e m1s
      refine ((m_spellTask (P := 0) (E := 0) 0 hB hok hPo.r ha (fun z => absurd z w)).deeper (Nat.le_of_ble_eq_true rfl)).mono (fun v h2 q0 => ?_)
      rcases q0 with ⟨-, q1, rfl⟩ | ⟨q1, -⟩
      · exact ⟨⟨_, q1⟩, hMH.kp m1e m1s, Same.refl⟩
      · exact absurd q1 w


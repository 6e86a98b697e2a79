/-! ===== calls that end things, ticks: both sides ===== -/
theorem Same.join {P : Nat → Prop} {h0 h1 h2 : mH} (a : Same P h0 h1) (b : Same P h0 h2) : Same P h1 h2 := ⟨b.1.trans a.1.symm, b.2.1.trans a.2.1.symm, b.2.2.1.trans a.2.2.1.symm, fun q hq => (b.2.2.2 q hq).trans (a.2.2.2 q hq).symm⟩
theorem TKR.kq {m m' pool c c' : Nat → Int} {S : Nat → Option mO} {g g' : Nat → Option Nat} {t0 : Nat} (h : TKR m pool c S g t0) (k3 : m 3 ≤ 10) (hn : ∀ q : Nat, (q : Int) < m 3 → ∃ n : Nat, m (1619 + 72 * q) = n ∧ n ≤ 60) (k1 : ∀ j, 180 ≤ j → g' j = g j) (k2 : ∀ q, 488 ≤ q → (∀ t : Nat, q ≠ 496 + 9 * t) → c' q = c q) (k30 : c' 3 = c 3) (h3 : m' 3 = m 3) (h7 : m' 7 = m 7) (hm : ∀ q, 1608 ≤ q → q < 2328 → (∀ t : Nat, q ≠ 1614 + 72 * t) → m' q = m q) : TKR m' pool c' S g' t0 := by
  obtain ⟨a, b⟩ := h
  refine ⟨by rw [k30, h7]; exact a, fun q hq => ?_⟩
  rw [h3] at hq
  obtain ⟨b1, b2⟩ := b q hq
  exact ⟨tkA_c b1 (fun j x y z _ _ => hm j (by omega) (by omega) (fun t w => by omega)) (fun j x y z _ => k2 j (by omega) (fun t w => by omega)) (k1 _ (by omega)), fun z => tkC_c (b2 z) (fun j x y w => hm j (by omega) (by omega) (fun t w => by omega)) (hn q hq) (k2 _ (by omega) (fun t w => by omega)) (k1 _ (by omega))⟩
theorem fcF_call {m pool c : Nat → Int} {S : Nat → Option mO} {C : Nat → Nat → Int} {nm : Nat → Int64} {g : Nat → Option Nat} {F : Nat} (h : CR m pool S c C nm g) (hF : c 11 = (F : Int)) : fcF c (C 5) F (-1) = m 5 := by
  obtain ⟨-, -, -, -, -, -, ⟨F', f0⟩, -, -⟩ := h
  obtain rfl : F' = F := by have := f0.1.1; omega
  have of0 : ofF c (-1) = 0 := by
    unfold ofF
    rw [if_neg]
    intro w
    have := w.1
    omega
  unfold fcF b0F
  rw [of0, if_pos rfl, if_pos rfl, Int.add_zero, f0.2.2.2.2.2.1]
theorem CR.fa {m pool c : Nat → Int} {S : Nat → Option mO} {C : Nat → Nat → Int} {nm : Nat → Int64} {g : Nat → Option Nat} (h : CR m pool S c C nm g) (hok : mOk m) : ∃ F : Nat, (∀ q, InR (c q)) ∧ c 11 = (F : Int) ∧ c 12 = (F : Int) ∧ c 13 = (F : Int) ∧ F ≤ 90 ∧ (0 ≤ c 4 ∧ c 4 ≤ (F : Int)) ∧ ∀ q, InR (C 5 q) := by
  obtain ⟨-, -, -, -, -, -, ⟨F, f0⟩, -, R⟩ := h
  have k2 := hok.2.2.2.1
  have := f0.2.1
  exact ⟨F, R.1, f0.1.1, f0.1.2.1, f0.1.2.2, by omega, f0.2.2.1, R.2 5⟩
section BO
variable {G : mG} {l : Launch} {r : Nat} {pool : Nat → Int} {S : Nat → Option mO} {h0 : mH}
theorem both_close (hS : ∀ a o, S a = some o → hGet h0 a = some o) (hSr : ∀ a, ¬ S a = none → ¬ rBlk r a) {m : Nat → Int} {B T t : Int} (h : All m pool B T) (hP : poolOk pool) (hB : B ≤ 1900000000) (hd : closeDo m t) :
    ∃ m', closesR pool (-1) 91 (updI m 5 0) t.toNat m' ∧ All m' pool B T ∧ m' 8 = m 8 ∧ ∀ b0 c4 h1, BES r pool S h0 b0 c4 m h1 → RUNM G l 13 mX3_endInCall [.ref r, .int (J t)] h1 (fun v h' => v = some (.int (J (m' 5))) ∧ ∃ c5, BES r pool S h0 (-1) c5 m' h') := by
  have h5 := h.low (k := 5) (v := 0) (by decide) (Or.inr ⟨rfl, rfl⟩)
  have k1 := h.1.1.1.2.2.1
  have k0 := h.1.1.1.2.1
  have k3 := h.1.1.1.2.2.2.2.1
  have e : ∀ q, ¬ q = 5 → updI m 5 0 q = m q := fun q a => updI_n a
  have nc : cnt (cngB (updI m 5 0)) (updI m 5 0 1).toNat = 0 := h5.1.2.2.1.cnt (by rw [e 1 (by omega)]; exact k1.1)
  obtain ⟨u, eu⟩ : ∃ u : Nat, t = u := ⟨t.toNat, by have := hd.1; omega⟩
  subst eu
  have hu1 : (u : Int) < m 1 := by have := hd.1; omega
  have hu0 : m (258 + 14 * u) = 0 := by rw [← hd.2]; congr 1
  rw [show ((u : Int)).toNat = u by omega]
  obtain ⟨m', a, b, c, -, -⟩ := simC_all (G := G) (l := l) (b := -1) hS hSr ⟨by decide, by decide⟩ hP 91 _ u B h5.1.1 (by omega) (by rw [nc]; omega) (by rw [e 1 (by omega)]; omega) (by rw [e _ (by omega)]; exact hu0)
  have hA := h5.es b (c.sc h5.1.2.1 (by rw [e 0 (by omega)]; omega)) c.es
  refine ⟨m', a.1, hA, (c.1 8 (by unfold far; omega)).trans (e 8 (by omega)), fun b0 c4 h1 hX => ?_⟩
  obtain ⟨f, cc, C, nm, g, hR, hSm, hC, hK, h4⟩ := hX
  have y := CR_call hC h.1.1.1
  have y2 := CR_cng y h5.1.1.1 (Int.le_refl _) (t := u) (by rw [e 1 (by omega)]; exact hu1) (by rw [e _ (by omega)]; exact hu0)
  obtain ⟨n0, -, -, -, -, -, -, -, hc, -⟩ := id hC
  have P := cr_endThingE (G := G) (l := l) 9 hR hc (hc 11) (t := u) (by rw [n0.1]; exact hu1) (by omega) (X := fun f' c' C' nm' g' => CR m' pool S c' C' nm' g' ∧ TKR m' pool c' S g' 99) (fun h2 hR2 hS2 => by
    have sr : SR (updI m 5 0) := fun a ha => (h5.1.2.1.2.2 a ha).1
    have go := a.2.1 sr 0 0 _ _ C nm _ h2 hR2 updI_s (hSm.trans hS2) y2 (by unfold btG; rw [updO_s, updO_n (by omega)]) (by rw [nc]; decide) (by
      have p0 := psi_0 h5.1.1.1 h5.1.2.2.1
      have co := cnt_r (openB (updI m 5 0)) (updI m 5 0 0).toNat
      have k2 := h5.1.1.1.2.2.2.1
      unfold psi at p0
      omega)
    refine go_wk go (fun k' h' w => ?_)
    obtain ⟨f', c', C', nm', g', x1, x2, x3, x4, x5, x6⟩ := w
    refine ⟨?_, _, _, _, _, _, _, x1, fun h'' z1 z2 => ?_⟩
    · have co := cnt_r (openB m') (m' 0).toNat
      have cm := hA.1.2.2.1.cnt hA.1.1.1.2.2.1.1
      have k2 := hA.1.1.1.2.2.2.1
      have k2' := h5.1.1.1.2.2.2.1
      unfold phi at x6
      rw [cm, nc] at x6
      omega
    · obtain ⟨F, w⟩ := x3.fa hA.1.1.1
      obtain ⟨-, v2, v3, v4, v5⟩ := x5
      refine ⟨f', c', C', nm', g', F, ⟨z1, ((hSm.trans hS2).join x2).trans z2⟩, w, x3, hK.kq k3.2 h.2.1.nn (fun j hj => ?_) (fun j hj hj2 => ?_) ?_ ?_ ?_ (fun j a b d => ?_)⟩
      · rw [v2 j hj]; unfold btG; exact updO_n (by omega)
      · rw [v3 j hj hj2, updI_n (by omega), updI_n (by omega)]
      · rw [v4, updI_n (by omega), updI_n (by omega)]
      · rw [c.1 3 (by unfold far; omega), e 3 (by omega)]
      · rw [c.1 7 (by unfold far; omega), e 7 (by omega)]
      · rw [c.1 j (fat_far (Or.inr (Or.inr (Or.inr (Or.inr (Or.inr ⟨a, b, d⟩)))))), e j (by omega)])
  refine P.mono (fun v h' w => ?_)
  obtain ⟨f', c', C', nm', g', F, w1, w2, w3, w4, w5, w6⟩ := w
  exact ⟨by rw [w1, fcF_call w5 w4], _, f', c', C', nm', g', w2, hSm.trans w3, w5, w6, rfl⟩
theorem both_shut (hS : ∀ a o, S a = some o → hGet h0 a = some o) (hSr : ∀ a, ¬ S a = none → ¬ rBlk r a) {m : Nat → Int} {B T t : Int} (h : All m pool B T) (hP : poolOk pool) (hB : B ≤ 1900000000) (hd : openP m t) :
    ∃ m', shutsR pool (-1) 61 (updI m 5 0) t m' ∧ All m' pool B T ∧ m' 8 = m 8 ∧ ∀ b0 c4 h1, BES r pool S h0 b0 c4 m h1 → RUNM G l 13 mX3_endInCall [.ref r, .int (J (100 + t))] h1 (fun v h' => v = some (.int (J (m' 5))) ∧ ∃ c5, BES r pool S h0 (-1) c5 m' h') := by
  have h5 := h.low (k := 5) (v := 0) (by decide) (Or.inr ⟨rfl, rfl⟩)
  have k1 := h.1.1.1.2.2.1
  have k0 := h.1.1.1.2.1
  have k3 := h.1.1.1.2.2.2.2.1
  have e : ∀ q, ¬ q = 5 → updI m 5 0 q = m q := fun q a => updI_n a
  obtain ⟨u, eu⟩ : ∃ u : Nat, t = u := ⟨t.toNat, by have := hd.1; omega⟩
  subst eu
  obtain ⟨hu1, hu0⟩ := openP_nat.mp hd
  obtain ⟨m', a, b, c, d, -⟩ := simS_all (G := G) (l := l) (b := -1) hS hSr ⟨by decide, by decide⟩ hP 61 _ u B h5.1.1 h5.1.2.1 h5.1.2.2.1 hB (by omega) (by rw [e 0 (by omega)]; exact hu1) (fun c _ hc => h5.1.2.2.2 c hc)
  have hA := h5.es b c d
  refine ⟨m', a.1, hA, (d.1 8 (Or.inr (Or.inr (Or.inr (Or.inl rfl))))).trans (e 8 (by omega)), fun b0 c4 h1 hX => ?_⟩
  obtain ⟨f, cc, C, nm, g, hR, hSm, hC, hK, h4⟩ := hX
  have y := CR_call hC h.1.1.1
  have y2 := CR_scb y h5.1.1.1 (Int.le_refl _) (a := u) (by rw [e 0 (by omega)]; exact hu1) (by rw [e _ (by omega)]; exact hu0)
  obtain ⟨n0, -, -, -, -, -, -, -, hc, -⟩ := id hC
  have p0 := psi_0 h5.1.1.1 h5.1.2.2.1
  have P := cr_endScopeE (G := G) (l := l) 9 hR hc (hc 11) (u := u) (by rw [n0.2.1]; exact hu1) (by omega) (X := fun f' c' C' nm' g' => CR m' pool S c' C' nm' g' ∧ TKR m' pool c' S g' 99) (fun h2 hR2 hS2 => by
    have go := a.2.1 u rfl (by rw [e 0 (by omega)]; exact hu1) (by rw [e _ (by omega)]; exact hu0) 0 0 _ _ C nm _ h2 hR2 updI_s (hSm.trans hS2) y2 (by omega) (by omega)
    refine go_wk go (fun k' h' w => ?_)
    obtain ⟨f', c', C', nm', g', x1, x2, x3, x4, x5, x6⟩ := w
    refine ⟨psi_k hA.1.1.1 hA.1.2.2.1 x6 (by split <;> omega), _, _, _, _, _, _, x1, fun h'' z1 z2 => ?_⟩
    obtain ⟨F, w⟩ := x3.fa hA.1.1.1
    obtain ⟨v2, v3, v4, v5⟩ := x5
    refine ⟨f', c', C', nm', g', F, ⟨z1, ((hSm.trans hS2).join x2).trans z2⟩, w, x3, hK.kq k3.2 h.2.1.nn (fun j hj => v2 j hj) (fun j hj hj2 => ?_) ?_ ?_ ?_ (fun j a b d' => ?_)⟩
    · rw [v3 j hj hj2, updI_n (by omega), updI_n (by omega)]
    · rw [v4, updI_n (by omega), updI_n (by omega)]
    · rw [d.1 3 (Or.inr (Or.inl rfl)), e 3 (by omega)]
    · rw [d.1 7 (Or.inr (Or.inr (Or.inl rfl))), e 7 (by omega)]
    · rw [d.1 j (Or.inr (Or.inr (Or.inr (Or.inr (Or.inr ⟨a, b, d'⟩))))), e j (by omega)])
  refine P.mono (fun v h' w => ?_)
  obtain ⟨f', c', C', nm', g', F, w1, w2, w3, w4, w5, w6⟩ := w
  exact ⟨by rw [w1, fcF_call w5 w4], _, f', c', C', nm', g', w2, hSm.trans w3, w5, w6, rfl⟩
theorem BES.o3 {b c4 : Int} {m : Nat → Int} {h : mH} (k : BES r pool S h0 b c4 m h) : isO3 h r := by
  obtain ⟨f, c, C, nm, g, hR, -⟩ := k
  exact hR.o3
theorem WK.mono {G : mG} {l : Launch} {D r : Nat} {h : mH} {R R' : mH → Prop} (k : WK G l D r h R) (f : ∀ h', R h' → R' h') : WK G l D r h R' := RUNM.mono k (fun v h' w => ⟨w.1, f h' w.2⟩)
/-- work that there is none of -/
theorem wk_none {h : mH} {b c4 : Int} {m : Nat → Int} (k : BES r pool S h0 b c4 m h) : WK G l 12 r h (BES r pool S h0 b c4 m) := by
  refine go_wk (T := fun k' h' => k' = 0 ∧ h' = h) (GOES.rf ⟨rfl, rfl⟩) (fun k' h' w => ?_)
  obtain ⟨rfl, rfl⟩ := w
  obtain ⟨f, c, C, nm, g, hR, x2, x3⟩ := k
  exact ⟨by decide, b, f, c, C, nm, g, hR, fun h'' a d => ⟨f, c, C, nm, g, a, x2.trans d, x3⟩⟩
/-- a call of tick -/
theorem both_tick (hS : ∀ a o, S a = some o → hGet h0 a = some o) (hSr : ∀ a, ¬ S a = none → ¬ rBlk r a) (hPo : poolOk pool) {m : Nat → Int} {B T : Int} (h : All m pool B T) (hB : B ≤ 1700000000) (hT : T ≤ 900000000) :
    ∃ m', tickR pool m m' ∧ All m' pool (B + 120) (T + 1) ∧ m' 8 = m 8 ∧ ∀ b0 c4 h1, BES r pool S h0 b0 c4 m h1 → RUNM G l 13 mX3_tickOnce [.ref r] h1 (fun v h' => v = some (.int (J (nextV m))) ∧ ∃ b, BES r pool S h0 b c4 m' h') := by
  obtain ⟨h1, h2, h3, h4⟩ := id h
  rcases sim_tick (G := G) (l := l) hS hSr hPo h1 h2 hB (by omega) with ⟨z, a, k⟩ | ⟨q, z, zq, m', a, a2, a3, a4, a5, a6, k⟩
  · refine ⟨m, a, h.up (by omega) (by omega), rfl, fun b0 c4 hh hX => ?_⟩
    rw [z]
    exact cr_tickOnce (G := G) (l := l) 12 (R1 := BES r pool S h0 b0 c4 m) (R2 := fun h' => ∃ b, BES r pool S h0 b c4 m h') hX.o3 ((k b0 c4 hh hX).mono (fun v h' w => by
      obtain ⟨w1, rfl⟩ := w
      exact ⟨w1, hX⟩)) (fun h' w => w.o3) (fun h' w => (wk_none w).mono (fun _ x => ⟨_, x⟩))
  · refine ⟨m', a, ⟨a2, a3, by omega, by omega⟩, a6.1, fun b0 c4 hh hX => ?_⟩
    obtain ⟨R1, r1, r2, r3⟩ := k b0 c4 hh hX
    exact cr_tickOnce (G := G) (l := l) 12 (R1 := R1) (R2 := fun h' => ∃ b, BES r pool S h0 b c4 m' h') hX.o3 r1 r2 (fun h' w => (r3 h' w).mono (fun _ x => ⟨_, x⟩))
/-- so many ticks, row by row -/
theorem both_tickL (hS : ∀ a o, S a = some o → hGet h0 a = some o) (hSr : ∀ a, ¬ S a = none → ¬ rBlk r a) (hPo : poolOk pool) : ∀ (n : Nat) (m : Nat → Int) (B : Int), Mid m pool B → TkM m pool 99 → B + 120 * n ≤ 1700000000 → m 7 + n ≤ 1000000000 →
    ∃ (k : Nat) (s : Nat → Nat → Int), s 0 = m ∧ ticksR pool n m k (s k) ∧ k ≤ n ∧ Mid (s k) pool (B + 120 * n) ∧ TkM (s k) pool 99 ∧ s k 3 = m 3 ∧ s k 7 ≤ m 7 + n ∧ s k 8 = m 8 ∧ m 1 ≤ s k 1 ∧
      (∀ i, i < k → ∀ b0 c4 h, BES r pool S h0 b0 c4 (s i) h → ∃ q : Nat, (q : Int) < 10 ∧ ∃ R1 : mH → Prop, RUNM G l 12 mX3_beginTurn [.ref r] h (fun v h' => v = some (.int (J (q : Int))) ∧ R1 h') ∧ (∀ h', R1 h' → isO3 h' r) ∧ ∀ h', R1 h' → WK G l 12 r h' (BES r pool S h0 (q : Int) c4 (s (i + 1)))) ∧
      (k = n ∨ ∀ b0 c4 h, BES r pool S h0 b0 c4 (s k) h → RUNM G l 12 mX3_beginTurn [.ref r] h (fun v h' => v = some (.int (J (-5))) ∧ h' = h))
  | 0, m, B, hM, hT, hB, h7 => ⟨0, fun _ => m, rfl, ⟨rfl, rfl⟩, Nat.le_refl _, hM.up (by omega), hT, rfl, by show m 7 ≤ m 7 + ((0 : Nat) : Int); omega, rfl, Int.le_refl _, fun i hi => absurd hi (Nat.not_lt_zero _), Or.inl rfl⟩
  | n + 1, m, B, hM, hT, hB, h7 => by
    rcases sim_tick (G := G) (l := l) hS hSr hPo hM hT (by omega) (by omega) with ⟨z, a, k⟩ | ⟨q, z, zq, m', a, a2, a3, a4, a5, a6, k⟩
    · exact ⟨0, fun _ => m, rfl, ⟨m, a, Or.inl ⟨by omega, rfl, rfl⟩⟩, by omega, hM.up (by omega), hT, rfl, by show m 7 ≤ m 7 + ((n + 1 : Nat) : Int); omega, rfl, Int.le_refl _, fun i hi => absurd hi (Nat.not_lt_zero _), Or.inr k⟩
    · obtain ⟨kk, s, s0, t1, t2, t3, t4, t5, t6, t7, t8, t9, t10⟩ := both_tickL hS hSr hPo n m' (B + 120) a2 a3 (by omega) (by omega)
      have k3 := hM.1.1.2.2.2.2.1
      refine ⟨kk + 1, fun i => match i with | 0 => m | j + 1 => s j, rfl, ⟨m', a, Or.inr ⟨by omega, kk, rfl, t1⟩⟩, by omega, t3.up (by omega), t4, by show s kk 3 = m 3; omega, by show s kk 7 ≤ _; omega, by show s kk 8 = m 8; omega, by show m 1 ≤ s kk 1; omega, fun i hi => ?_, ?_⟩
      · cases i with
        | zero =>
          intro b0 c4 h hX
          obtain ⟨R1, r1, r2, r3⟩ := k b0 c4 h hX
          rw [z] at r1
          refine ⟨q, by omega, R1, r1, r2, fun h' w => ?_⟩
          show WK G l 12 r h' (BES r pool S h0 (q : Int) c4 (s 0))
          rw [s0]; exact r3 h' w
        | succ i => exact t9 i (by omega)
      · rcases t10 with t10 | t10
        · exact Or.inl (by omega)
        · exact Or.inr t10
/-- calls of run, of a trial -/
theorem both_ticks (hS : ∀ a o, S a = some o → hGet h0 a = some o) (hSr : ∀ a, ¬ S a = none → ¬ rBlk r a) (hPo : poolOk pool) {m : Nat → Int} {B T : Int} {n : Nat} (h : All m pool B T) (hn : n ≤ 100) (hB : B ≤ 1000000000) (hT : T ≤ 900000000) :
    ∃ (k : Nat) (m' : Nat → Int), ticksR pool n m k m' ∧ k ≤ n ∧ All m' pool (B + 12000) (T + 100) ∧ m' 8 = m 8 ∧ ∀ b0 c4 h1, BES r pool S h0 b0 c4 m h1 → RUNM G l 13 mX3_tickUpTo [.ref r, .int (J (n : Int))] h1 (fun v h' => v = some (.int (J (k : Int))) ∧ ∃ b, BES r pool S h0 b c4 m' h') := by
  obtain ⟨h1, h2, h3, h4⟩ := id h
  obtain ⟨k, s, s0, t1, t2, t3, t4, t5, t6, t7, t8, t9, t10⟩ := both_tickL (G := G) (l := l) hS hSr hPo n m B h1 h2 (by omega) (by omega)
  refine ⟨k, s k, t1, t2, ⟨t3.up (by omega), t4, by omega, by omega⟩, t7, fun b0 c4 hh hX => ?_⟩
  refine cr_tickUpTo (G := G) (l := l) 12 (T := fun i h' => ∃ b, BES r pool S h0 b c4 (s i) h') (N := k) (M := (n : Int)) ⟨by omega, by omega⟩ (fun i h' w => ?_) (fun i h' hi w => ?_) ?_ ?_
  · obtain ⟨b, w⟩ := w
    exact w.o3
  · obtain ⟨b, w⟩ := w
    obtain ⟨q, hq, R1, r1, r2, r3⟩ := t9 i hi b c4 h' w
    exact ⟨(q : Int), R1, ⟨by omega, by omega⟩, by omega, r1, r2, fun h'' w => (r3 h'' w).mono (fun _ x => ⟨_, x⟩)⟩
  · rcases t10 with t10 | t10
    · exact Or.inl (by omega)
    · refine Or.inr (fun h' w => ?_)
      obtain ⟨b, w⟩ := w
      exact t10 b c4 h' w
  · exact ⟨b0, by show BES r pool S h0 b0 c4 (s 0) hh; rw [s0]; exact hX⟩
end BO

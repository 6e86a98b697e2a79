/-! ===== a turn's steps, on both sides ===== -/
theorem psi_out {m : Nat → Int} {k j : Nat} {v : Int} (h0 : m 0 ≤ 60) (h1 : m 1 ≤ 90) (hj : 1608 ≤ j) : psi k (updI m j v) = psi k m := by
  have e : ∀ q, q < 1608 → updI m j v q = m q := fun q hq => updI_n (by omega)
  have a : cnt (cngB (updI m j v)) (m 1).toNat = cnt (cngB m) (m 1).toNat := cnt_congr _ (fun q hq => by
    show decide (updI m j v (258 + 14 * q) = 1) = decide (m (258 + 14 * q) = 1)
    rw [e _ (by omega)])
  have b : cnt (openB (updI m j v)) (m 0).toNat = cnt (openB m) (m 0).toNat := cnt_congr _ (fun q hq => by unfold openB; rw [e _ (by omega)])
  unfold psi phi
  rw [e 0 (by omega), e 1 (by omega), e 2 (by omega), a, b]
theorem TKR.ch {m m' pool c c' : Nat → Int} {S : Nat → Option mO} {g g' : Nat → Option Nat} {q : Nat} (h : TKR m pool c S g q) (k3 : m 3 ≤ 10) (hn : ∀ u : Nat, (u : Int) < m 3 → ∃ n : Nat, m (1619 + 72 * u) = n ∧ n ≤ 60) (h3 : m' 3 = m 3) (h7 : c' 3 = m' 7) (hm : ∀ j, 1608 ≤ j → j < 2328 → (∀ t : Nat, j ≠ 1614 + 72 * t) → (j < 1608 + 72 * q ∨ 1680 + 72 * q ≤ j) → m' j = m j) (hc : ∀ j, 488 ≤ j → (∀ t : Nat, j ≠ 496 + 9 * t) → (j < 488 + 9 * q ∨ 497 + 9 * q ≤ j) → c' j = c j) (hg : ∀ j, 180 ≤ j → ¬ j = 181 + 2 * q → g' j = g j) (ha : (q : Int) < m 3 → tkA m' pool c' S g' q) : TKR m' pool c' S g' q := by
  refine ⟨h7, fun u hu => ?_⟩
  rw [h3] at hu
  by_cases w : u = q
  · subst w; exact ⟨ha hu, fun z => absurd rfl z⟩
  · obtain ⟨b1, b2⟩ := h.2 u hu
    exact ⟨tkA_c b1 (fun j x y z _ _ => hm j (by omega) (by omega) (fun t w => by omega) (by omega)) (fun j x y z _ => hc j (by omega) (fun t w => by omega) (by omega)) (hg _ (by omega) (by omega)), fun z => tkC_c (b2 z) (fun j x y w => hm j (by omega) (by omega) (fun t w => by omega) (by omega)) (hn u hu) (hc _ (by omega) (fun t w => by omega) (by omega)) (hg _ (by omega) (by omega))⟩
theorem TKR.fin {m pool c : Nat → Int} {S : Nat → Option mO} {g : Nat → Option Nat} {q : Nat} (h : TKR m pool c S g q) (k : tkC m pool c S g q) : TKR m pool c S g 99 := ⟨h.1, fun u hu => ⟨(h.2 u hu).1, fun _ => by
  by_cases w : u = q
  · subst w; exact k
  · exact (h.2 u hu).2 w⟩⟩
theorem TkM.nn {m pool : Nat → Int} {t : Nat} (h : TkM m pool t) : ∀ u : Nat, (u : Int) < m 3 → ∃ n : Nat, m (1619 + 72 * u) = n ∧ n ≤ 60 := fun u hu => by
  obtain ⟨-, -, -, -, -, -, ⟨n, a7, a8⟩, -⟩ := (h.2 u hu).1
  exact ⟨n, a7, a8.1.2⟩
/-- how a turn leaves the world -/
def TNE (r : Nat) (pool : Nat → Int) (S : Nat → Option mO) (h0 : mH) (b : Int) (c : Nat → Int) (m' : Nat → Int) (ps : Int) (k' : Nat) (h' : mH) : Prop :=
  ∃ f' c' C' nm' g', isR h' r b 0 f' c' C' nm' g' ∧ Same (rBlk r) h0 h' ∧ CR m' pool S c' C' nm' g' ∧ TKR m' pool c' S g' 99 ∧ c' 4 = c 4 ∧ psi k' m' ≤ ps
section TL
variable {G : mG} {l : Launch} {r : Nat} {b : Int} {pool : Nat → Int} {S : Nat → Option mO} {h0 : mH}
theorem sim_ends {m m' : Nat → Int} {B : Int} {q o k : Nat} {st : Int} {f c : Nat → Int} {C : Nat → Nat → Int} {nm : Nat → Int64} {g : Nat → Option Nat} {h : mH} (hM : Mid m pool B) (hT : TkM m pool q) (hq : (q : Int) < m 3) (hK : TKR m pool c S g q) (hst : 1 ≤ st ∧ st ≤ 3)
    (hR : isR h r b 1 f (updI c (489 + 9 * q) st) C nm g) (hf : f 0 = 200 + (q : Int)) (hSm : Same (rBlk r) h0 h) (hC : CR m pool S c C nm g) (h494 : c (494 + 9 * q) = m (1620 + 72 * q + o)) (hn : m (1619 + 72 * q) = (o : Int) + 1) (hph : psi k m + 600 ≤ 900000) (hO : isOverR (shS G l r b pool S h0 61) q st m m') :
    GOES G l r k h (TNE r pool S h0 b c m' (psi k m + 130)) := by
  have hok := hM.1.1
  have k0 := hok.2.1
  have k1 := hok.2.2.1
  have k3 := hok.2.2.2.2.1
  obtain ⟨a1, a2, a3, a4, a5, a6, ⟨n, a7, a8⟩, a9, a10⟩ := id (hT.2 q hq).1
  obtain rfl : n = o + 1 := by omega
  obtain ⟨-, n, n60, nn, hO⟩ := hO
  obtain rfl : n = o + 1 := by omega
  have um : ∀ j, ¬ j = 1610 + 72 * q → updI m (1610 + 72 * q) st j = m j := fun j w => updI_n w
  have hM1 : Mid (updI m (1610 + 72 * q) st) pool B := hM.out ⟨by omega, by omega⟩ (by omega)
  have y := (CR_tk hC hok (Int.le_refl _) (q0 := q) (v := st) (by omega) ⟨by omega, by omega⟩).1
  have stk1 : stkOk (updI m (1610 + 72 * q) st) q (o + 1) := by
    refine ⟨a8.1, fun j hj => ?_, fun j hj => ?_⟩
    · rw [um _ (by omega), um 0 (by omega)]; exact a8.2.1 j hj
    · have z1 := a8.2.1 (j + 1) hj
      rw [um (1620 + 72 * q + (j + 1)) (by omega), um (1620 + 72 * q + j) (by omega), um _ (by omega)]; exact a8.2.2 j hj
  have ps := psi_out (k := k) (v := st) k0.2 k1.2 (show 1608 ≤ 1610 + 72 * q by omega)
  obtain ⟨kA, -⟩ := hK.2 q hq
  obtain ⟨go, -, es⟩ := sim_over o _ m' k f _ C nm g h ⟨B, hM1⟩ (by rw [um 3 (by omega)]; exact hq) (by rw [updI_s]; omega) stk1 hR hf hSm y (by rw [updI_n (by omega), um _ (by omega), kA.2.2.2.2.1, a6]) (by rw [updI_n (by omega), um _ (by omega)]; exact h494) (by rw [ps]; omega) hO
  refine go.mono (fun k' h' w => ?_)
  obtain ⟨f', c', C', nm', g', x1, x2, x3, ⟨v1, v2, v3, v4⟩, x5⟩ := w
  have fa : ∀ j, 1608 ≤ j → j < 2328 → (∀ t : Nat, j ≠ 1614 + 72 * t) → ¬ j = 1610 + 72 * q → m' j = m j := fun j a d e z => (es.1 j (Or.inr (Or.inr (Or.inr (Or.inr (Or.inr ⟨a, d, e⟩)))))).trans (um j z)
  have T1 : TKR m' pool c' S g' q := by
    refine hK.ch k3.2 hT.nn ((es.1 3 (Or.inr (Or.inl rfl))).trans (um 3 (by omega))) ?_ (fun j a d e z => fa j a d e (by omega)) (fun j a d z => ?_) (fun j a _ => v1 j a) (fun _ => ?_)
    · rw [v3, updI_n (by omega), hK.1]; exact ((es.1 7 (Or.inr (Or.inr (Or.inl rfl)))).trans (um 7 (by omega))).symm
    · rw [v2 j a d (by omega), updI_n (by omega)]
    · exact tkA_c kA (fun j x y z z2 z3 => fa j (by omega) (by omega) (fun t w => by omega) z2) (fun j x y z z2 => by rw [v2 j (by omega) (fun t w => by omega) z, updI_n z2]) (v1 _ (by omega))
  refine ⟨f', c', C', nm', g', x1, x2, x3, T1.fin (fun z => ?_), by rw [v4, updI_n (by omega)], by rw [ps] at x5; omega⟩
  rw [es.1 (1610 + 72 * q) (Or.inr (Or.inr (Or.inr (Or.inr (Or.inr ⟨by omega, by omega, fun t w => by omega⟩))))), updI_s] at z
  omega
theorem sim_fin {m m' : Nat → Int} {B : Int} {q o k E p : Nat} {f c : Nat → Int} {C : Nat → Nat → Int} {nm : Nat → Int64} {g : Nat → Option Nat} {h : mH} (hM : Mid m pool B) (hT : TkM m pool q) (hq : (q : Int) < m 3) (hrd : m (1610 + 72 * q) = 0) (h18 : m (1618 + 72 * q) = 0) (hK : TKR m pool c S g q)
    (hR : isR h r b 1 f c C nm g) (hf : f 0 = 200 + (q : Int)) (hSm : Same (rBlk r) h0 h) (hC : CR m pool S c C nm g) (h494 : c (494 + 9 * q) = m (1620 + 72 * q + o)) (hn : m (1619 + 72 * q) = (o : Int) + 1) (hg : g (181 + 2 * q) = none) (hph : psi k m + 700 ≤ 900000) (hEp : E ≤ p) (hF : turnFinR (shS G l r b pool S h0 61) q E m p m') :
    GOES G l r k h (TNE r pool S h0 b c m' (psi k m + 200)) := by
  have hok := hM.1.1
  have k0 := hok.2.1
  have k1 := hok.2.2.1
  have k2 := hok.2.2.2.1
  have k3 := hok.2.2.2.2.1
  obtain ⟨n0, T, A, K, L, ⟨Z, e0⟩, ⟨F, f0⟩, Gg, hc, hCC⟩ := id hC
  obtain ⟨-, hp, ⟨w, -⟩ | ⟨-, hO⟩⟩ := hF
  · omega
  obtain ⟨kA, -⟩ := hK.2 q hq
  have fb := f0.2.1
  have co := cnt_r (openB m) (m 0).toNat
  have cc := hM.2.2.1.cnt k1.1
  have hkk : k < 1000000 := by unfold psi phi at hph; omega
  have fce : fcF c (C 5) F (q : Int) = cnt (faultB m q) (m 4).toNat := by
    have of0 : ofF c (q : Int) = 0 := by
      unfold ofF
      rw [show ((q : Int)).toNat = q by omega, kA.2.2.2.2.2.1, h18]
      split <;> rfl
    have b0 : b0F c (q : Int) = 0 := by unfold b0F; rw [if_neg (by omega)]
    unfold fcF
    rw [of0, if_pos rfl, b0, Int.add_zero, f0.2.2.2.1]
    exact (flt_cnt f0 q F (Nat.le_refl _)).symm
  have um : ∀ j, ¬ j = 1611 + 72 * q → updI m (1611 + 72 * q) p j = m j := fun j w => updI_n w
  have hM1 : Mid (updI m (1611 + 72 * q) p) pool B := hM.out ⟨by omega, by omega⟩ (by omega)
  have y : CR (updI m (1611 + 72 * q) p) pool S c C nm g := hC.see hok (Int.le_refl _) (fun j hj => um j (fun w => by
    subst w
    rcases hj with w | w | w | ⟨t, w | w⟩ <;> omega)) (fun _ _ => rfl) hc (fun _ _ => rfl)
  have T1 : TKR (updI m (1611 + 72 * q) p) pool c S g q := hK.ch k3.2 hT.nn (um 3 (by omega)) (by rw [um 7 (by omega)]; exact hK.1) (fun j a d e z => um j (by omega)) (fun _ _ _ _ => rfl) (fun _ _ _ => rfl) (fun _ => tkA_c kA (fun j x y z z2 z3 => um j z3) (fun _ _ _ _ _ => rfl) rfl)
  have hT1 : TkM (updI m (1611 + 72 * q) p) pool q := hT.step (um 3 (by omega)) (um 0 (by omega)) k0.2 k3.2 (by rw [um 7 (by omega)]; exact Int.le_refl _) (by rw [um 8 (by omega)]; exact Int.le_refl _) (fun c _ hc => um _ (by omega)) (fun u hu hu9 => ⟨fun j a b c => um j (by omega), Or.inl (um _ (by omega))⟩) (fun _ => by
    obtain ⟨a1, a2, a3, a4, a5, a6, ⟨n, a7, a8⟩, a9, a10⟩ := (hT.2 q hq).1
    unfold tkB
    rw [updI_s, um 8 (by omega), um _ (by omega), um _ (by omega), um _ (by omega), um _ (by omega), um _ (by omega), um _ (by omega), um _ (by omega), um _ (by omega), um _ (by omega), um _ (by omega), um _ (by omega), um _ (by omega)]
    refine ⟨a1, a2, a3, a4, a5, a6, ⟨n, a7, a8.1, fun k hk => ?_, fun k hk => ?_⟩, ⟨p, rfl, hp⟩, a10⟩
    · rw [um _ (by omega), um 0 (by omega)]; exact a8.2.1 k hk
    · have z1 := a8.2.1 (k + 1) hk
      rw [um (1620 + 72 * q + (k + 1)) (by omega), um (1620 + 72 * q + k) (by omega), um _ (by omega)]; exact a8.2.2 k hk)
  have P := cr_taskEnds (G := G) (l := l) 7 hR hc (by rw [n0.2.2.1]; exact hq) (by omega) f0.1.1 f0.1.2.1 f0.1.2.2 (by omega) f0.2.2.1 (hCC 5) (by rw [(K q hq).1]; exact hrd) hg
  rw [fce] at P
  refine (go_task (k := k) hR ⟨by omega, by omega⟩ hkk (by omega) hf P).bind (fun k' h' w => ?_)
  obtain ⟨rfl, w1, w2⟩ := w
  have ps := psi_out (k := k + 1) (v := (p : Int)) k0.2 k1.2 (show 1608 ≤ 1611 + 72 * q by omega)
  have pk : psi (k + 1) m = psi k m + 1 := by unfold psi phi; omega
  refine (sim_ends (o := o) hM1 hT1 (by rw [um 3 (by omega)]; exact hq) T1 (by split <;> decide) w1 hf (hSm.trans w2) y (by rw [um (1620 + 72 * q + o) (by omega)]; exact h494) (by rw [um (1619 + 72 * q) (by omega)]; exact hn) (by rw [ps]; omega) hO).mono (fun k'' h'' w => ?_)
  obtain ⟨f', c', C', nm', g', x1, x2, x3, x4, x5, x6⟩ := w
  exact ⟨f', c', C', nm', g', x1, x2, x3, x4, x5, by rw [ps] at x6; omega⟩
end TL

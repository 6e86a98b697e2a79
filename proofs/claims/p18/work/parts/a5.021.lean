section mg_b2
section TL
variable {G : mG} {l : Launch} {r : Nat} {b : Int} {pool : Nat → Int} {S : Nat → Option mO} {h0 : mH}
theorem sim_fin {m m' : Nat → Int} {B : Int} {q o k E p : Nat} {f c : Nat → Int} {C : Nat → Nat → Int} {nm : Nat → Int64} {g : Nat → Option Nat} {h : mH} (hM : Mid m pool B) (hT : TkM m pool q) (hq : (q : Int) < m 3) (hrd : m (1610 + 72 * q) = 0) (h18 : m (1618 + 72 * q) = 0) (hK : TKR m pool c S g q)
    (hR : isR h r b 1 f c C nm g) (hf : f 0 = 200 + (q : Int)) (hSm : Same (rBlk r) h0 h) (hC : CR m pool S c C nm g) (h494 : c (494 + 9 * q) = m (1620 + 72 * q + o)) (hn : m (1619 + 72 * q) = (o : Int) + 1) (hg : g (181 + 2 * q) = none) (hph : psi k m + 700 ≤ 900000) (hEp : E ≤ p) (hF : turnFinR (shS G l r b pool S h0 61) q E m p m') :
    GOES G l r k h (TNE r pool S h0 b c m' (psi k m + 200)) := by
  have hok := hM.1.1
  have k0 := hok.2.1
  have k1 := hok.2.2.1
  have k2 := hok.2.2.2.1
  have k3 := hok.2.2.2.2.1
  obtain ⟨n0, T, A, K, L, ⟨Z, e0⟩, ⟨F, f0⟩, Gg, hc, hCC⟩ := id hC
  obtain ⟨-, hp, ⟨w, -⟩ | ⟨-, hO⟩⟩ := hF
  · omega
  obtain ⟨kA, -⟩ := hK.2 q hq
  have fb := f0.2.1
  have co := cnt_r (openB m) (m 0).toNat
  have cc := hM.2.2.1.cnt k1.1
  have hkk : k < 1000000 := by unfold psi phi at hph; omega
  have fce : fcF c (C 5) F (q : Int) = cnt (faultB m q) (m 4).toNat := by
    have of0 : ofF c (q : Int) = 0 := by
      unfold ofF
      rw [show ((q : Int)).toNat = q by omega, kA.2.2.2.2.2.1, h18]
      split <;> rfl
    have b0 : b0F c (q : Int) = 0 := by unfold b0F; rw [if_neg (by omega)]
    unfold fcF
    rw [of0, if_pos rfl, b0, Int.add_zero, f0.2.2.2.1]
    exact (flt_cnt f0 q F (Nat.le_refl _)).symm
  have um : ∀ j, ¬ j = 1611 + 72 * q → updI m (1611 + 72 * q) p j = m j := fun j w => updI_n w
  have hM1 : Mid (updI m (1611 + 72 * q) p) pool B := hM.out ⟨by omega, by omega⟩ (by omega)
  have y : CR (updI m (1611 + 72 * q) p) pool S c C nm g := hC.see hok (Int.le_refl _) (fun j hj => um j (fun w => by
    subst w
    rcases hj with w | w | w | ⟨t, w | w⟩ <;> omega)) (fun _ _ => rfl) hc (fun _ _ => rfl)
  have T1 : TKR (updI m (1611 + 72 * q) p) pool c S g q := hK.ch k3.2 hT.nn (um 3 (by omega)) (by rw [um 7 (by omega)]; exact hK.1) (fun j a d e z => um j (by omega)) (fun _ _ _ _ => rfl) (fun _ _ _ => rfl) (fun _ => tkA_c kA (fun j x y z z2 z3 => um j z3) (fun _ _ _ _ _ => rfl) rfl)
  have hT1 : TkM (updI m (1611 + 72 * q) p) pool q := hT.step (um 3 (by omega)) (um 0 (by omega)) k0.2 k3.2 (by rw [um 7 (by omega)]; exact Int.le_refl _) (by rw [um 8 (by omega)]; exact Int.le_refl _) (fun c _ hc => um _ (by omega)) (fun u hu hu9 => ⟨fun j a b c => um j (by omega), Or.inl (um _ (by omega))⟩) (fun _ => by
    obtain ⟨a1, a2, a3, a4, a5, a6, ⟨n, a7, a8⟩, a9, a10⟩ := (hT.2 q hq).1
    unfold tkB
    rw [updI_s, um 8 (by omega), um _ (by omega), um _ (by omega), um _ (by omega), um _ (by omega), um _ (by omega), um _ (by omega), um _ (by omega), um _ (by omega), um _ (by omega), um _ (by omega), um _ (by omega), um _ (by omega)]
    refine ⟨a1, a2, a3, a4, a5, a6, ⟨n, a7, a8.1, fun k hk => ?_, fun k hk => ?_⟩, ⟨p, rfl, hp⟩, a10⟩
    · rw [um _ (by omega), um 0 (by omega)]; exact a8.2.1 k hk
    · have z1 := a8.2.1 (k + 1) hk
      rw [um (1620 + 72 * q + (k + 1)) (by omega), um (1620 + 72 * q + k) (by omega), um _ (by omega)]; exact a8.2.2 k hk)
  have P := cr_taskEnds (G := G) (l := l) 7 hR hc (by rw [n0.2.2.1]; exact hq) (by omega) f0.1.1 f0.1.2.1 f0.1.2.2 (by omega) f0.2.2.1 (hCC 5) (by rw [(K q hq).1]; exact hrd) hg
  rw [fce] at P
  refine (go_task (k := k) hR ⟨by omega, by omega⟩ hkk (by omega) hf P).bind (fun k' h' w => ?_)
  obtain ⟨rfl, w1, w2⟩ := w
  have ps := psi_out (k := k + 1) (v := (p : Int)) k0.2 k1.2 (show 1608 ≤ 1611 + 72 * q by omega)
  have pk : psi (k + 1) m = psi k m + 1 := by unfold psi phi; omega
  refine (sim_ends (o := o) hM1 hT1 (by rw [um 3 (by omega)]; exact hq) T1 (by split <;> decide) w1 hf (hSm.trans w2) y (by rw [um (1620 + 72 * q + o) (by omega)]; exact h494) (by rw [um (1619 + 72 * q) (by omega)]; exact hn) (by rw [ps]; omega) hO).mono (fun k'' h'' w => ?_)
  obtain ⟨f', c', C', nm', g', x1, x2, x3, x4, x5, x6⟩ := w
  exact ⟨f', c', C', nm', g', x1, x2, x3, x4, x5, by rw [ps] at x6; omega⟩
end TL
end mg_b2

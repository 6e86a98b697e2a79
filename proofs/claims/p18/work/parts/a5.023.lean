section mg_b3
section TT
variable {G : mG} {l : Launch} {r : Nat} {pool : Nat → Int} {S : Nat → Option mO} {h0 : mH}
theorem sim_tloop (hS : ∀ a o, S a = some o → hGet h0 a = some o) (hSr : ∀ a, ¬ S a = none → ¬ rBlk r a) (hPo : poolOk pool) {q P E : Nat} (hPE : E ≤ P + 120) : ∀ (kf : Nat) (m m' : Nat → Int) (k : Nat) (f c : Nat → Int) (C : Nat → Nat → Int) (nm : Nat → Int64) (g : Nat → Option Nat) (h : mH) (o p : Nat), (∃ B, Mid m pool B) → TkM m pool q → (q : Int) < m 3 → m (1610 + 72 * q) = 0 → m (1618 + 72 * q) = 0 → m (1619 + 72 * q) = (o : Int) + 1 → m (1616 + 72 * q) = P → m (1617 + 72 * q) = E → P ≤ p → m (1615 + 72 * q) ≤ (p : Int) - P → TKR m pool c S g q → rsT pool S (g (181 + 2 * q)) o p E → c (494 + 9 * q) = m (1620 + 72 * q + o) →
    isR h r (q : Int) 1 f c C nm g → f 0 = 200 + (q : Int) → Same (rBlk r) h0 h → CR m pool S c C nm g → psi k m + 400 * ((E - p : Nat) : Int) + 1000 ≤ 900000 → turnLoopI pool (clT G l r (q : Int) pool S h0) (shS G l r (q : Int) pool S h0 61) q E kf m p m' →
    GOES G l r k h (TNE r pool S h0 (q : Int) c m' (psi k m + 400 * ((E - p : Nat) : Int) + 600))
  | kf, m, m', k, f, c, C, nm, g, h, o, p, ⟨B, hM⟩, hT, hq, hrd, h18, hn, hP, hE, hpP, hd, hK, hrs, h494, hR, hf, hSm, hC, hph, hL => by
    have hok := hM.1.1
    have k0 := hok.2.1
    have k1 := hok.2.2.1
    have k3 := hok.2.2.2.2.1
    by_cases pE : E ≤ p
    · have hF : turnFinR (shS G l r (q : Int) pool S h0 61) q E m p m' := by
        cases kf with
        | zero => exact hL.2
        | succ kf =>
          rcases hL with ⟨-, x⟩ | ⟨x, -⟩
          · exact x
          · omega
      have hg : g (181 + 2 * q) = none := by
        rcases hrs with ⟨-, x⟩ | ⟨x, -⟩
        · exact x
        · omega
      exact (sim_fin hM hT hq hrd h18 hK hR hf hSm hC h494 hn hg (by omega) pE hF).mono (fun k' h' w => by
        obtain ⟨f', c', C', nm', g', x1, x2, x3, x4, x5, x6⟩ := w
        exact ⟨f', c', C', nm', g', x1, x2, x3, x4, x5, by omega⟩)
    · cases kf with
      | zero => exact absurd hL.1 pE
      | succ kf =>
        rcases hrs with ⟨x, -⟩ | ⟨hpE, s, hi, n, hg, hl⟩
        · omega
        rcases hL with ⟨x, -⟩ | ⟨-, fl, m1, hdi, hfr, hin, hL⟩
        · omega
        cases n with
        | zero => exact hl.elim
        | succ n =>
          obtain ⟨nx, mid, e, o', hK1, hmid, hend, hnx⟩ := hl
          have tK : stepK pool (stsC pool n) o p e o' := by
            rcases hK1 with ⟨x, xo⟩ | ⟨-, -, x1, x2, x3, -⟩ | ⟨-, -, x1, x2, x3, -⟩
            · exact Or.inl ⟨stQ_t (fun b q r y => stL_tC n 0 b mid q r y) x, xo⟩
            · exact Or.inr (Or.inl ⟨x1, x2, x3⟩)
            · exact Or.inr (Or.inr ⟨x1, x2, x3⟩)
          have lt := stepK_lt tK
          have heE : e ≤ E := by rcases hnx with ⟨rfl, -⟩ | ⟨x, -⟩ <;> omega
          have hbe : behL pool (E - p) p 0 = e := (stepK_skip tK).beh (E := E) heE (by rcases hnx with ⟨x, -⟩ | ⟨_, x, _⟩; exact Or.inl x; exact Or.inr x)
          obtain ⟨kA, -⟩ := hK.2 q hq
          by_cases z : fl = 0
          · subst z
            rcases hL with ⟨x, -⟩ | ⟨-, hL⟩
            · exact absurd rfl x
            rw [hbe] at hL
            obtain ⟨out, ho'⟩ := doesIn_out hM hT hq hn tK hdi.1
            have ho' := ho' rfl
            obtain ⟨-, ⟨B1, hM1⟩, hT1, kt⟩ := id hdi
            obtain ⟨kt3, kt7, kt8, ktq⟩ := id kt
            have hok1 := hM1.1.1
            have h10 := hok1.2.1
            have h11 := hok1.2.2.1
            have h13 := hok1.2.2.2.2.1
            have d1 : m1 (1615 + 72 * q) = m (1615 + 72 * q) := ktq _ (by omega) (by omega) (by omega)
            have d5 := (hT.2 q hq).1.2.2.2.2.1
            have e2 : ∀ j, ¬ j = 1615 + 72 * q → updI m1 (1615 + 72 * q) (m1 (1615 + 72 * q) + 1) j = m1 j := fun j w => updI_n w
            have hm2 : Mid (updI m1 (1615 + 72 * q) (m1 (1615 + 72 * q) + 1)) pool B1 := hM1.out ⟨by omega, by omega⟩ (by omega)
            have hT2 : TkM (updI m1 (1615 + 72 * q) (m1 (1615 + 72 * q) + 1)) pool q := hT1.step (e2 3 (by omega)) (e2 0 (by omega)) h10.2 h13.2 (by rw [e2 7 (by omega)]; exact Int.le_refl _) (by rw [e2 8 (by omega)]; exact Int.le_refl _) (fun c _ hc => e2 _ (by omega)) (fun u hu hu9 => ⟨fun q a b c => e2 q (by omega), Or.inl (e2 _ (by omega))⟩) (fun _ => by
              obtain ⟨a1, a2, a3, a4, a5, a6, ⟨n, a7, a8⟩, a9, a10⟩ := (hT1.2 q (by omega)).1
              unfold tkB
              rw [updI_s, e2 8 (by omega), e2 _ (by omega), e2 _ (by omega), e2 _ (by omega), e2 _ (by omega), e2 _ (by omega), e2 _ (by omega), e2 _ (by omega), e2 _ (by omega), e2 _ (by omega), e2 _ (by omega), e2 _ (by omega), e2 _ (by omega)]
              refine ⟨a1, a2, a3, a4, ⟨by omega, by omega⟩, a6, ⟨n, a7, a8.1, fun k hk => ?_, fun k hk => ?_⟩, a9, a10⟩
              · rw [e2 _ (by omega), e2 0 (by omega)]; exact a8.2.1 k hk
              · have z1 := a8.2.1 (k + 1) hk
                rw [e2 (1620 + 72 * q + (k + 1)) (by omega), e2 (1620 + 72 * q + k) (by omega), e2 _ (by omega)]; exact a8.2.2 k hk)
            have pso : ∀ k', psi k' (updI m1 (1615 + 72 * q) (m1 (1615 + 72 * q) + 1)) = psi k' m1 := fun k' => psi_out h10.2 h11.2 (by omega)
            refine (go_tstep hS hSr hPo hM hT hq hrd hR hf hSm hC kA.1 kA.2.2.2.2.1 h494 hn (by omega) hg hK1 (endC_nd hend) hdi (if pool p = 46 ∧ ¬ nx = none then 0 else 1) rfl).bind (fun k' h' w => ?_)
            obtain ⟨f', c', C', nm', g', x1, x2, x3, x4, x5, x6, x7, x8, x9, x10⟩ := w
            have c488 : c' (488 + 9 * q) = c (488 + 9 * q) + 1 := by rw [x6 _ (by omega) (fun t w => by omega) (by omega), updI_s]
            have cn : ∀ j, 488 ≤ j → (∀ t : Nat, j ≠ 496 + 9 * t) → ¬ j = 494 + 9 * q → ¬ j = 488 + 9 * q → c' j = c j := fun j a b d e => by rw [x6 j a b d, updI_n e]
            have gn : ∀ j, 180 ≤ j → ¬ j = 181 + 2 * q → g' j = g j := fun j a b => by rw [x5 j a, updO_n b]
            have mn : ∀ j, 1608 + 72 * q ≤ j → j < 1619 + 72 * q → ¬ j = 1614 + 72 * q → ¬ j = 1615 + 72 * q → updI m1 (1615 + 72 * q) (m1 (1615 + 72 * q) + 1) j = m j := fun j a b d e => by rw [e2 j e]; exact ktq j a b d
            have y2 : CR (updI m1 (1615 + 72 * q) (m1 (1615 + 72 * q) + 1)) pool S c' C' nm' g' := x3.see hok1 (Int.le_refl _) (fun j hj => e2 j (fun w => by
              subst w
              rcases hj with w | w | w | ⟨t, w | w⟩ <;> omega)) (fun _ _ => rfl) (by obtain ⟨-, -, -, -, -, -, -, -, R⟩ := id x3; exact R.1) (fun _ _ => rfl)
            have K2 : TKR (updI m1 (1615 + 72 * q) (m1 (1615 + 72 * q) + 1)) pool c' S g' q := by
              refine hK.ch k3.2 hT.nn ((e2 3 (by omega)).trans kt3) (by rw [x7, hK.1, e2 7 (by omega), kt7]) (fun j a b d w => ?_) (fun j a b w => cn j a b (by omega) (by omega)) gn (fun _ => ?_)
              · rw [e2 j (by omega)]; exact out j a b d (by omega)
              · obtain ⟨b1, b2, b3, b4, b5, b6, b7, b8, b9, P', E', b10, b11, b12, b13⟩ := kA
                refine ⟨?_, ?_, ?_, ?_, ?_, ?_, b7, b8, b9, P', E', ?_, ?_, ?_, b13⟩
                · rw [c488, updI_s, b1, d1]
                · rw [cn _ (by omega) (fun t w => by omega) (by omega) (by omega), mn _ (by omega) (by omega) (by omega) (by omega)]; exact b2
                · rw [cn _ (by omega) (fun t w => by omega) (by omega) (by omega), mn _ (by omega) (by omega) (by omega) (by omega)]; exact b3
                · rw [cn _ (by omega) (fun t w => by omega) (by omega) (by omega), mn _ (by omega) (by omega) (by omega) (by omega)]; exact b4
                · rw [cn _ (by omega) (fun t w => by omega) (by omega) (by omega), mn _ (by omega) (by omega) (by omega) (by omega)]; exact b5
                · rw [cn _ (by omega) (fun t w => by omega) (by omega) (by omega), mn _ (by omega) (by omega) (by omega) (by omega)]; exact b6
                · rw [mn _ (by omega) (by omega) (by omega) (by omega)]; exact b10
                · rw [mn _ (by omega) (by omega) (by omega) (by omega)]; exact b11
                · rw [gn _ (by omega) (by omega)]; exact b12
            have r10 : updI m1 (1615 + 72 * q) (m1 (1615 + 72 * q) + 1) (1610 + 72 * q) = 0 := by rw [mn _ (by omega) (by omega) (by omega) (by omega)]; exact hrd
            have r18 : updI m1 (1615 + 72 * q) (m1 (1615 + 72 * q) + 1) (1618 + 72 * q) = 0 := by rw [mn _ (by omega) (by omega) (by omega) (by omega)]; exact h18
            have r19 : updI m1 (1615 + 72 * q) (m1 (1615 + 72 * q) + 1) (1619 + 72 * q) = (o' : Int) + 1 := by rw [e2 _ (by omega)]; exact ho'
            have r16 : updI m1 (1615 + 72 * q) (m1 (1615 + 72 * q) + 1) (1616 + 72 * q) = P := by rw [mn _ (by omega) (by omega) (by omega) (by omega)]; exact hP
            have r17 : updI m1 (1615 + 72 * q) (m1 (1615 + 72 * q) + 1) (1617 + 72 * q) = E := by rw [mn _ (by omega) (by omega) (by omega) (by omega)]; exact hE
            have r494 : c' (494 + 9 * q) = updI m1 (1615 + 72 * q) (m1 (1615 + 72 * q) + 1) (1620 + 72 * q + o') := by rw [e2 _ (by omega)]; exact x9
            have g181 : g' (181 + 2 * q) = nx := by rw [x5 _ (by omega), updO_s]
            have hq2 : (q : Int) < updI m1 (1615 + 72 * q) (m1 (1615 + 72 * q) + 1) 3 := by rw [e2 3 (by omega)]; omega
            have rs : rsT pool S (g' (181 + 2 * q)) o' (e + 1) E := by
              rcases hnx with ⟨w1, w2⟩ | ⟨w1, w2, b, w3, w4, w5⟩
              · exact Or.inl ⟨by omega, by rw [g181]; exact w2⟩
              · exact Or.inr ⟨stL_lt w5, b, hi, n, by rw [g181]; exact w3, w5⟩
            have bnd : psi k' (updI m1 (1615 + 72 * q) (m1 (1615 + 72 * q) + 1)) + 400 * ((E - (e + 1) : Nat) : Int) ≤ psi k m + 400 * ((E - p : Nat) : Int) := by
              rw [pso]
              have s1 : E - (e + 1) + 1 ≤ E - p := sub_aux lt heE
              exact bnd_aux x10 s1
            have four : c' 4 = c 4 := x8
            have done : ∀ {k'' h''} {ps : Int}, ps ≤ psi k m + 400 * ((E - p : Nat) : Int) + 600 → TNE r pool S h0 (q : Int) c' m' ps k'' h'' → TNE r pool S h0 (q : Int) c m' (psi k m + 400 * ((E - p : Nat) : Int) + 600) k'' h'' := fun {k'' h'' ps} a w => by
              obtain ⟨f3, c3, C3, nm3, g3, y1, y2, y3, y4, y5, y6⟩ := w
              exact ⟨f3, c3, C3, nm3, g3, y1, y2, y3, y4, y5.trans four, by omega⟩
            by_cases dot : pool p = 46 ∧ ¬ nx = none
            · rw [if_pos dot] at x1 x4
              rcases hL with ⟨-, hF⟩ | ⟨w, -⟩
              · rcases hnx with ⟨-, w⟩ | ⟨w1, w2, b, w3, w4, w5⟩
                · exact absurd w dot.2
                have lt2 := stL_lt w5
                obtain ⟨-, hp2, ⟨-, hF⟩ | ⟨w, -⟩⟩ := hF
                · have um : ∀ j, ¬ j = 1611 + 72 * q → m' j = updI m1 (1615 + 72 * q) (m1 (1615 + 72 * q) + 1) j := fun j w => by rw [hF, updI_n w]
                  have y3 : CR m' pool S c' C' nm' g' := y2.see hm2.1.1 (Int.le_refl _) (fun j hj => um j (fun w => by
                    subst w
                    rcases hj with w | w | w | ⟨t, w | w⟩ <;> omega)) (fun _ _ => rfl) (by obtain ⟨-, -, -, -, -, -, -, -, R⟩ := id x3; exact R.1) (fun _ _ => rfl)
                  have K3 : TKR m' pool c' S g' q := by
                    refine K2.ch (by rw [e2 3 (by omega)]; exact h13.2) hT2.nn (um 3 (by omega)) (by rw [um 7 (by omega)]; exact K2.1) (fun j a d e z => um j (by omega)) (fun _ _ _ _ => rfl) (fun _ _ _ => rfl) (fun _ => tkA_c (K2.2 q hq2).1 (fun j x y z z2 z3 => um j z3) (fun _ _ _ _ _ => rfl) rfl)
                  refine GOES.rf ⟨f', c', C', nm', g', x1, x2, y3, K3.fin (fun _ => ⟨by rw [um _ (by omega)]; exact r18, o', e + 1, E, by rw [um _ (by omega)]; exact r19, by rw [um _ (by omega)]; exact r17, by rw [hF, updI_s], by rw [um _ (by omega)]; exact r494, rs⟩), four, ?_⟩
                  rw [hF, psi_out (by rw [e2 0 (by omega)]; exact h10.2) (by rw [e2 1 (by omega)]; exact h11.2) (by omega), pso]
                  omega
                · omega
              · exact absurd dot.1 w
            · rw [if_neg dot] at x1 x4
              have ff : f' 0 = 200 + (q : Int) := by rw [x4 rfl]; exact hf
              rcases hL with ⟨w, hF⟩ | ⟨-, hL⟩
              · have nx0 : nx = none := by
                  cases nx with
                  | none => rfl
                  | some s2 => exact absurd ⟨w, fun v => by cases v⟩ dot
                rcases hnx with ⟨w1, -⟩ | ⟨-, -, b, w3, -⟩
                · exact (sim_fin hm2 hT2 hq2 r10 r18 K2 x1 ff x2 y2 r494 r19 (by rw [g181]; exact nx0) (by omega) (by omega) hF).mono (fun k'' h'' w => done (by omega) w)
                · rw [nx0] at w3; cases w3
              · exact (sim_tloop hS hSr hPo hPE kf _ m' k' f' c' C' nm' g' h' o' (e + 1) ⟨B1, hm2⟩ hT2 hq2 r10 r18 r19 r16 r17 (by omega) (by rw [updI_s]; omega) K2 rs r494 x1 ff x2 y2 (by omega) hL).mono (fun k'' h'' w => done (by omega) w)
          · rcases hL with ⟨-, hO⟩ | ⟨x, -⟩
            · obtain ⟨em, go⟩ := go_tfault (k := k) hS hSr hPo hM hT hq hrd hR hf hSm hC h494 hn (by omega) hg hK1 (endC_nd hend) hfr z hdi.1
              rw [em] at hO
              refine go.bind (fun k' h' w => ?_)
              obtain ⟨rfl, w1, w2⟩ := w
              have um : ∀ j, ¬ j = 1618 + 72 * q → updI m (1618 + 72 * q) fl j = m j := fun j w => updI_n w
              have uc : ∀ j, ¬ j = 495 + 9 * q → updI c (495 + 9 * q) fl j = c j := fun j w => updI_n w
              have hM2 : Mid (updI m (1618 + 72 * q) fl) pool B := hM.out hfr (by omega)
              obtain ⟨-, -, -, -, -, -, -, -, Rc, -⟩ := id hC
              have y : CR (updI m (1618 + 72 * q) fl) pool S (updI c (495 + 9 * q) fl) C nm g := hC.see hok (Int.le_refl _) (fun j hj => um j (fun w => by
                subst w
                rcases hj with w | w | w | ⟨t, w | w⟩ <;> omega)) (fun j hj => uc j (fun w => by
                subst w
                rcases hj with w | w | w | w | w | ⟨t, w | w⟩ <;> omega)) (fun j => by
                by_cases w : j = 495 + 9 * q
                · subst w; rw [updI_s]; exact hfr
                · rw [uc j w]; exact Rc j) (fun _ _ => rfl)
              have hT2 : TkM (updI m (1618 + 72 * q) fl) pool q := hT.step (um 3 (by omega)) (um 0 (by omega)) k0.2 k3.2 (by rw [um 7 (by omega)]; exact Int.le_refl _) (by rw [um 8 (by omega)]; exact Int.le_refl _) (fun c _ hc => um _ (by omega)) (fun u hu hu9 => ⟨fun q a b c => um q (by omega), Or.inl (um _ (by omega))⟩) (fun _ => by
                obtain ⟨a1, a2, a3, a4, a5, a6, ⟨n, a7, a8⟩, a9, a10⟩ := (hT.2 q hq).1
                unfold tkB
                rw [um 8 (by omega), um _ (by omega), um _ (by omega), um _ (by omega), um _ (by omega), um _ (by omega), um _ (by omega), um _ (by omega), um _ (by omega), um _ (by omega), um _ (by omega), um _ (by omega), um _ (by omega), um _ (by omega)]
                refine ⟨a1, a2, a3, a4, a5, a6, ⟨n, a7, a8.1, fun k hk => ?_, fun k hk => ?_⟩, a9, a10⟩
                · rw [um _ (by omega), um 0 (by omega)]; exact a8.2.1 k hk
                · have z1 := a8.2.1 (k + 1) hk
                  rw [um (1620 + 72 * q + (k + 1)) (by omega), um (1620 + 72 * q + k) (by omega), um _ (by omega)]; exact a8.2.2 k hk)
              have K2 : TKR (updI m (1618 + 72 * q) fl) pool (updI c (495 + 9 * q) fl) S g q := by
                refine hK.ch k3.2 hT.nn (um 3 (by omega)) (by rw [uc 3 (by omega), um 7 (by omega)]; exact hK.1) (fun j a b d w => um j (by omega)) (fun j a b w => uc j (by omega)) (fun _ _ _ => rfl) (fun _ => ?_)
                obtain ⟨b1, b2, b3, b4, b5, b6, b7, b8, b9, P', E', b10, b11, b12, b13⟩ := kA
                refine ⟨?_, ?_, ?_, ?_, ?_, by rw [updI_s, updI_s], b7, b8, b9, P', E', ?_, ?_, b12, b13⟩
                · rw [uc _ (by omega), um _ (by omega)]; exact b1
                · rw [uc _ (by omega), um _ (by omega)]; exact b2
                · rw [uc _ (by omega), um _ (by omega)]; exact b3
                · rw [uc _ (by omega), um _ (by omega)]; exact b4
                · rw [uc _ (by omega), um _ (by omega)]; exact b5
                · rw [um _ (by omega)]; exact b10
                · rw [um _ (by omega)]; exact b11
              have pso := psi_out (k := k + 1) (v := fl) k0.2 k1.2 (show 1608 ≤ 1618 + 72 * q by omega)
              have pk : psi (k + 1) m = psi k m + 1 := by unfold psi phi; omega
              refine (sim_ends (o := o) hM2 hT2 (by rw [um 3 (by omega)]; exact hq) K2 (by decide) w1 hf (hSm.trans w2) y (by rw [uc _ (by omega), um (1620 + 72 * q + o) (by omega)]; exact h494) (by rw [um (1619 + 72 * q) (by omega)]; exact hn) (by rw [pso]; omega) hO).mono (fun k'' h'' w => ?_)
              obtain ⟨f3, c3, C3, nm3, g3, y1, y2, y3, y4, y5, y6⟩ := w
              exact ⟨f3, c3, C3, nm3, g3, y1, y2, y3, y4, y5.trans (uc 4 (by omega)), by rw [pso] at y6; omega⟩
            · exact absurd x z
end TT
end mg_b3

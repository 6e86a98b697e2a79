section mg_a5
section SH
variable {G : mG} {l : Launch} {r : Nat} {b : Int} {pool : Nat → Int} {S : Nat → Option mO} {h0 : mH} {n : Nat}
theorem sim_shloop (hS : ∀ a o, S a = some o → hGet h0 a = some o) (hSr : ∀ a, ¬ S a = none → ¬ rBlk r a) (hb : -1 ≤ b ∧ b ≤ 9) (hPo : poolOk pool) {a z : Nat} (hza : z ≤ a + 1) : ∀ (kf : Nat) (m m2 : Nat → Int) (B : Int) (k : Nat) (f c : Nat → Int) (C : Nat → Nat → Int) (nm : Nat → Int64) (g : Nat → Option Nat) (h : mH), Inv m pool B → ScI m → NC m → (a : Int) < m 0 → m (18 + 4 * a) = 1 → (∀ c : Nat, a < c → (c : Int) < m 0 → ¬ m (18 + 4 * c) = 1) → isR h r b ((z : Int) + 1) f c C nm g → f z = 100 + (a : Int) → Same (rBlk r) h0 h → CR m pool S c C nm g → psi k m ≤ 900000 →
    shLoopR (clT G l r b pool S h0) (shS G l r b pool S h0 n) a kf m m2 → GOES G l r k h (fun k' h' => ∃ f' c' C' nm' g', isR h' r b ((z : Int) + 1) f' c' C' nm' g' ∧ Same (rBlk r) h0 h' ∧ CR m2 pool S c' C' nm' g' ∧ (∀ j, j ≤ z → f' j = f j) ∧ KPk c c' g g' ∧ psi k' m2 ≤ psi k m) ∧ lastI m2 a < 0 ∧ (∃ B, Inv m2 pool B) ∧ ScI m2 ∧ m2 0 = m 0 ∧ m2 (18 + 4 * a) = 1
  | kf, m, m2, B, k, f, c, C, nm, g, h, hI, hsc, hnc, ha, ha1, hc2, hR, hf, hSm, hC, hph, hL => by
    have hok := hI.1
    have k0 := hok.2.1
    have k1 := hok.2.2.1
    have k2 := hok.2.2.2.1
    have hsr : SR m := fun u hu => (hsc.2.2 u hu).1
    have stop : lastI m a < 0 → m2 = m → GOES G l r k h (fun k' h' => ∃ f' c' C' nm' g', isR h' r b ((z : Int) + 1) f' c' C' nm' g' ∧ Same (rBlk r) h0 h' ∧ CR m2 pool S c' C' nm' g' ∧ (∀ j, j ≤ z → f' j = f j) ∧ KPk c c' g g' ∧ psi k' m2 ≤ psi k m) ∧ lastI m2 a < 0 ∧ (∃ B, Inv m2 pool B) ∧ ScI m2 ∧ m2 0 = m 0 ∧ m2 (18 + 4 * a) = 1 := fun x1 x2 => by
      subst x2
      exact ⟨GOES.rf ⟨f, c, C, nm, g, hR, hSm, hC, fun _ _ => rfl, KPk.rf, Int.le_refl _⟩, x1, ⟨B, hI⟩, hsc, rfl, ha1⟩
    cases kf with
    | zero => exact stop hL.2.2.1 hL.2.2.2
    | succ kf =>
      obtain ⟨-, -, hL⟩ := hL
      have cc := cnt_r (cngB m) (m 1).toNat
      have co := cnt_r (openB m) (m 0).toNat
      have hkk : k < 900001 := by
        have nc0 := hnc.cnt k1.1
        unfold psi phi at hph; omega
      obtain ⟨n0, T, A, K, L, ⟨Z, e0⟩, ⟨F, f0⟩, Gg, hcr, hCC⟩ := id hC
      have er := e0.2.1
      have lq := last_eq hC hok (by omega) (fun t ht => (hI.2.2.1 t ht).1) hsr (stamp_nn hI hsc) (s := (a : Int)) e0.1
      have lp := lastM_p m (a : Int) (m 1).toNat (m 0).toNat (by omega)
      have hau : (a : Int) < c 1 := by rw [n0.2.1]; exact ha
      have htop : f (((z : Int) + 1).toNat - 1) = 100 + (a : Int) := by rw [show ((z : Int) + 1).toNat - 1 = z by omega]; exact hf
      rcases hL with ⟨x1, x2⟩ | ⟨⟨x1, x1b⟩, m1, ⟨⟨-, sc, ev⟩, ⟨B1, hI1⟩, lt2⟩, x3⟩ | ⟨x1, m1, ⟨-, ss, ⟨B1, hI1⟩, sci1, es⟩, x3⟩
      · exact stop x1 x2
      · rw [if_neg (by omega)] at lq
        have hu : ∃ u : Nat, lastI m a = u ∧ (u : Int) < m 1 ∧ m (258 + 14 * u) = 0 := by
          rcases lp with lp | ⟨u, u1, u2, u3, -⟩ | ⟨u, u1, -⟩
          · exfalso; have : lastI m a = -5 := lp; omega
          · exact ⟨u, u1, by omega, u3⟩
          · exfalso; have : lastI m a = 100 + (u : Int) := u1; omega
        obtain ⟨u, u1, u2, u3⟩ := hu
        rw [u1] at lq
        rw [u1, Int.toNat_natCast] at sc
        have ph1 : psi (k + 1) m = psi k m + 1 := by unfold psi phi; omega
        have P := cr_shutT (G := G) (l := l) 8 hR hcr ⟨by omega, by omega⟩ hau (by omega) e0.1 (by omega) (hCC 2) (t := u) (by rw [n0.1]; exact u2) (by omega) lq
        have eA : m1 0 = m 0 := ev.1 0 (Or.inl rfl)
        have eS : ∀ q, 18 ≤ q → q < 258 → m1 q = m q := fun q x y => ev.1 q (by unfold far; omega)
        have es1 := ev.es
        have k12 := hI1.1.2.2.2.1
        have cg := ev.cng k1.1
        have op1 : cnt (openB m1) (m1 0).toNat = cnt (openB m) (m 0).toNat := by
          rw [eA]; exact cnt_congr _ (fun q hq => by unfold openB; rw [eS _ (by omega) (by omega)])
        have rec1 := fun k' f' c' C' nm' g' h' q1 q2 q3 q4 q5 => sim_shloop hS hSr hb hPo hza kf m1 m2 B1 k' f' c' C' nm' g' h' hI1 (ev.sc hsc k0.2) (es1.2.2.2.1 hnc) (by rw [eA]; exact ha) (by rw [eS _ (by omega) (by omega)]; exact ha1) (fun w w1 w2 => by rw [eA] at w2; rw [eS _ (by omega) (by omega)]; exact hc2 w w1 w2) q1 q2 q3 q4 q5 x3
        have stat : lastI m2 a < 0 ∧ (∃ B, Inv m2 pool B) ∧ ScI m2 ∧ m2 0 = m 0 ∧ m2 (18 + 4 * a) = 1 := by
          have := shl_inv kf m1 m2 B1 hI1 (ev.sc hsc k0.2) (by rw [eA]; exact ha) (by rw [eS _ (by omega) (by omega)]; exact ha1) x3
          rw [eA] at this
          exact this
        refine ⟨?_, stat⟩
        refine (go_scope (k := k) hR ⟨by omega, by omega⟩ (by omega) (by omega) htop P).bind (fun k' h' q => ?_)
        obtain ⟨rfl, q1, q2⟩ := q
        have e1 : ((z : Int) + 1).toNat = z + 1 := by omega
        rw [e1] at q1
        have y1 := CR_cng hC hok (Int.le_refl _) (t := u) u2 u3
        refine ((sc hsr (k + 1) (z + 1) _ _ _ _ _ h' (by rw [show ((z + 1 : Nat) : Int) = (z : Int) + 1 by omega]; exact q1) updI_s (hSm.trans q2) y1 (by unfold btG; rw [updO_s, updO_n (show 2 * u ≠ 2 * u + 1 by omega)]) (by omega) (by unfold psi at hph; unfold phi at hph ⊢; omega))).bind (fun k' h'' q' => ?_)
        obtain ⟨f', c', C', nm', g', w1, w2, w3, w4, ⟨-, w5⟩, w6⟩ := q'
        have kp : KPk c c' g g' := ⟨fun j hj => (w5.1 j hj).trans (by unfold btG; exact updO_n (by omega)), fun j hj hj2 => (w5.2.1 j hj hj2).trans (updI_n (by omega)), w5.2.2.1.trans (updI_n (by omega)), w5.2.2.2.trans (updI_n (by omega))⟩
        have ph2 : psi k' m1 ≤ psi k m := by unfold psi phi; unfold phi at w6; omega
        refine (rec1 k' f' c' C' nm' g' h'' (by rw [show ((z + 1 : Nat) : Int) = (z : Int) + 1 by omega] at w1; exact w1) (by rw [w4 z (by omega), updI_n (by omega)]; exact hf) w2 w3 (by omega)).1.mono (fun k'' h3 v => ?_)
        obtain ⟨f3, c3, C3, nm3, g3, v1, v2, v3, v4, v5, v6⟩ := v
        exact ⟨f3, c3, C3, nm3, g3, v1, v2, v3, fun j hj => (v4 j hj).trans ((w4 j (by omega)).trans (updI_n (by omega))), kp.tr v5, by omega⟩
      · rw [if_neg (by omega)] at lq
        have hu : ∃ u : Nat, lastI m a = 100 + (u : Int) ∧ 1 ≤ u ∧ (u : Int) < m 0 ∧ m (18 + 4 * u) = 0 ∧ m (19 + 4 * u) = a := by
          rcases lp with lp | ⟨u, u1, u2, u3, -⟩ | ⟨u, u1, u2, u3, u4, u5⟩
          · exfalso; have : lastI m a = -5 := lp; omega
          · exfalso; have : lastI m a = (u : Int) := u1; omega
          · exact ⟨u, u1, u2, by omega, u4, u5⟩
        obtain ⟨u, u1, u2, u3, u4, u5⟩ := hu
        rw [u1] at lq
        have lau := ((hsc.2.2 u u3).2 u2).1.2
        have ph1 : psi (k + 1) m = psi k m + 1 := by unfold psi phi; omega
        have P := cr_shutS (G := G) (l := l) 8 hR hcr ⟨by omega, by omega⟩ hau (by omega) e0.1 (by omega) (hCC 2) (q := u) (by rw [n0.2.1]; exact u3) (by omega) lq
        have eA : m1 0 = m 0 := es.1 0 (Or.inl rfl)
        have st1 : m1 (18 + 4 * a) = 1 := by
          rcases es.2.1 a (by omega) with w | w
          · rw [w]; exact ha1
          · rw [ha1] at w; exact absurd w.1 (by decide)
        have rec1 := fun k' f' c' C' nm' g' h' q1 q2 q3 q4 q5 => sim_shloop hS hSr hb hPo hza kf m1 m2 B1 k' f' c' C' nm' g' h' hI1 sci1 (es.2.2.2.1 hnc) (by rw [eA]; exact ha) st1 (fun w w1 w2 => by
          rw [eA] at w2
          rcases es.2.1 w (by omega) with v | v
          · rw [v]; exact hc2 w w1 w2
          · rw [v.2.1]; decide) q1 q2 q3 q4 q5 x3
        have stat : lastI m2 a < 0 ∧ (∃ B, Inv m2 pool B) ∧ ScI m2 ∧ m2 0 = m 0 ∧ m2 (18 + 4 * a) = 1 := by
          have := shl_inv kf m1 m2 B1 hI1 sci1 (by rw [eA]; exact ha) st1 x3
          rw [eA] at this
          exact this
        refine ⟨?_, stat⟩
        refine (go_scope (k := k) hR ⟨by omega, by omega⟩ (by omega) (by omega) htop P).bind (fun k' h' q => ?_)
        obtain ⟨rfl, q1, q2⟩ := q
        have e1 : ((z : Int) + 1).toNat = z + 1 := by omega
        rw [e1] at q1
        have y1 := CR_scb hC hok (Int.le_refl _) (a := u) u3 u4
        refine ((ss u (by rw [u1]; omega) u3 u4 (k + 1) (z + 1) _ _ _ _ _ h' (by rw [show ((z + 1 : Nat) : Int) = (z : Int) + 1 by omega]; exact q1) updI_s (hSm.trans q2) y1 (by omega) (by omega))).bind (fun k' h'' q' => ?_)
        obtain ⟨f', c', C', nm', g', w1, w2, w3, w4, w5, w6⟩ := q'
        rw [if_neg (by omega)] at w6
        have kp : KPk c c' g g' := ⟨w5.1, fun j hj hj2 => (w5.2.1 j hj hj2).trans (updI_n (by omega)), w5.2.2.1.trans (updI_n (by omega)), w5.2.2.2.trans (updI_n (by omega))⟩
        refine (rec1 k' f' c' C' nm' g' h'' (by rw [show ((z + 1 : Nat) : Int) = (z : Int) + 1 by omega] at w1; exact w1) (by rw [w4 z (by omega), updI_n (by omega)]; exact hf) w2 w3 (by omega)).1.mono (fun k'' h3 v => ?_)
        obtain ⟨f3, c3, C3, nm3, g3, v1, v2, v3, v4, v5, v6⟩ := v
        exact ⟨f3, c3, C3, nm3, g3, v1, v2, v3, fun j hj => (v4 j hj).trans ((w4 j (by omega)).trans (updI_n (by omega))), kp.tr v5, by omega⟩
end SH
end mg_a5

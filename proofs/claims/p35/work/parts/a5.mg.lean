section mg_a5
/-! ===== shuttings: the class's rounds beside the reference's shuts ===== -/
def psi (k : Nat) (m : Nat → Int) : Int := phi k m + 100 * (90 - m 2) + 300 * cnt (openB m) (m 0).toNat
def KPk (c c' : Nat → Int) (g g' : Nat → Option Nat) : Prop := (∀ j, 180 ≤ j → g' j = g j) ∧ (∀ q, 488 ≤ q → (∀ t : Nat, q ≠ 496 + 9 * t) → c' q = c q) ∧ c' 3 = c 3 ∧ c' 4 = c 4
theorem KPk.rf {c : Nat → Int} {g : Nat → Option Nat} : KPk c c g g := ⟨fun _ _ => rfl, fun _ _ _ => rfl, rfl, rfl⟩
theorem KPk.tr {c c' c'' : Nat → Int} {g g' g'' : Nat → Option Nat} (h : KPk c c' g g') (k : KPk c' c'' g' g'') : KPk c c'' g g'' := ⟨fun j a => (k.1 j a).trans (h.1 j a), fun q a d => (k.2.1 q a d).trans (h.2.1 q a d), k.2.2.1.trans h.2.2.1, k.2.2.2.trans h.2.2.2⟩
def SIMS (G : mG) (l : Launch) (r : Nat) (b : Int) (pool : Nat → Int) (S : Nat → Option mO) (h0 : mH) (m : Nat → Int) (s : Int) (m' : Nat → Int) : Prop :=
  ∀ a : Nat, s = (a : Int) → (a : Int) < m 0 → m (18 + 4 * a) = 0 → ∀ (k z : Nat) (f c : Nat → Int) (C : Nat → Nat → Int) (nm : Nat → Int64) (g : Nat → Option Nat) (h : mH), isR h r b ((z : Int) + 1) f c C nm g → f z = 100 + (a : Int) → Same (rBlk r) h0 h → CR (updI m (18 + 4 * a) 1) pool S c C nm g → z ≤ a + 1 → psi k m ≤ 900300 →
  GOES G l r k h (fun k' h' => ∃ f' c' C' nm' g', isR h' r b z f' c' C' nm' g' ∧ Same (rBlk r) h0 h' ∧ CR m' pool S c' C' nm' g' ∧ (∀ j, j < z → f' j = f j) ∧ KPk c c' g g' ∧ psi k' m' ≤ psi k m + (if a = 0 then 10 else -200))
def clT (G : mG) (l : Launch) (r : Nat) (b : Int) (pool : Nat → Int) (S : Nat → Option mO) (h0 : mH) (m : Nat → Int) (t : Nat) (m' : Nat → Int) : Prop := clS G l r b pool S h0 91 m t m' ∧ (∃ B, Inv m' pool B) ∧ m 2 < m' 2
def shS (G : mG) (l : Launch) (r : Nat) (b : Int) (pool : Nat → Int) (S : Nat → Option mO) (h0 : mH) (n : Nat) (m : Nat → Int) (s : Int) (m' : Nat → Int) : Prop := shutsR pool b n m s m' ∧ SIMS G l r b pool S h0 m s m' ∧ (∃ B, Inv m' pool B) ∧ ScI m' ∧ Es m m'
theorem simT_all {G : mG} {l : Launch} {r : Nat} {b : Int} {pool : Nat → Int} {S : Nat → Option mO} {h0 : mH} (hS : ∀ a o, S a = some o → hGet h0 a = some o) (hSr : ∀ a, ¬ S a = none → ¬ rBlk r a) (hb : -1 ≤ b ∧ b ≤ 9) (hPo : poolOk pool) : CXG (clT G l r b pool S h0) pool 91 := fun m t B h hB hn ht h0t => by
  obtain ⟨m', a, a2, a3, a4, a5⟩ := simC_all (G := G) (l := l) hS hSr hb hPo 91 m t B h hB hn ht h0t
  exact ⟨m', ⟨a, ⟨B, a2⟩, a4⟩, a2, a3, a4, a5⟩
section SH
variable {G : mG} {l : Launch} {r : Nat} {b : Int} {pool : Nat → Int} {S : Nat → Option mO} {h0 : mH} {n : Nat}
theorem stamp_nn {m : Nat → Int} {B : Int} (hI : Inv m pool B) (hsc : ScI m) : ∀ e, nodP m e → 0 ≤ stampI m e := fun e he => by
  have k1 := hI.1.2.2.1
  rcases he with ⟨t, rfl, x, -⟩ | ⟨a, rfl, x, y, -⟩
  · rw [stampI_t (by omega)]; exact (hI.2.2.1 t x).2.2.1.2.1
  · rw [stampI_s]; exact ((hsc.2.2 a y).2 x).2.1.1
/-- what the loop of a shutting leaves -/
theorem shl_inv {a : Nat} : ∀ (kf : Nat) (m m2 : Nat → Int) (B : Int), Inv m pool B → ScI m → (a : Int) < m 0 → m (18 + 4 * a) = 1 → shLoopR (clT G l r b pool S h0) (shS G l r b pool S h0 n) a kf m m2 → lastI m2 a < 0 ∧ (∃ B, Inv m2 pool B) ∧ ScI m2 ∧ m2 0 = m 0 ∧ m2 (18 + 4 * a) = 1
  | 0, m, m2, B, hI, hsc, ha, ha1, hL => by
    obtain ⟨-, -, x1, rfl⟩ := hL
    exact ⟨x1, ⟨B, hI⟩, hsc, rfl, ha1⟩
  | kf + 1, m, m2, B, hI, hsc, ha, ha1, hL => by
    have k0 := hI.1.2.1
    obtain ⟨-, -, ⟨x1, rfl⟩ | ⟨-, m1, ⟨⟨-, -, ev⟩, ⟨B1, hI1⟩, -⟩, x3⟩ | ⟨-, m1, ⟨-, -, ⟨B1, hI1⟩, sci1, es⟩, x3⟩⟩ := hL
    · exact ⟨x1, ⟨B, hI⟩, hsc, rfl, ha1⟩
    · have eA : m1 0 = m 0 := ev.1 0 (Or.inl rfl)
      have y := shl_inv kf m1 m2 B1 hI1 (ev.sc hsc k0.2) (by rw [eA]; exact ha) (by rw [ev.1 _ (by unfold far; omega)]; exact ha1) x3
      rw [eA] at y; exact y
    · have eA : m1 0 = m 0 := es.1 0 (Or.inl rfl)
      have st1 : m1 (18 + 4 * a) = 1 := by
        rcases es.2.1 a (by omega) with w | w
        · rw [w]; exact ha1
        · rw [ha1] at w; exact absurd w.1 (by decide)
      have y := shl_inv kf m1 m2 B1 hI1 sci1 (by rw [eA]; exact ha) st1 x3
      rw [eA] at y; exact y
theorem sim_shloop (hS : ∀ a o, S a = some o → hGet h0 a = some o) (hSr : ∀ a, ¬ S a = none → ¬ rBlk r a) (hb : -1 ≤ b ∧ b ≤ 9) (hPo : poolOk pool) {a z : Nat} (hza : z ≤ a + 1) : ∀ (kf : Nat) (m m2 : Nat → Int) (B : Int) (k : Nat) (f c : Nat → Int) (C : Nat → Nat → Int) (nm : Nat → Int64) (g : Nat → Option Nat) (h : mH), Inv m pool B → ScI m → NC m → (a : Int) < m 0 → m (18 + 4 * a) = 1 → (∀ c : Nat, a < c → (c : Int) < m 0 → ¬ m (18 + 4 * c) = 1) → isR h r b ((z : Int) + 1) f c C nm g → f z = 100 + (a : Int) → Same (rBlk r) h0 h → CR m pool S c C nm g → psi k m ≤ 900000 →
    shLoopR (clT G l r b pool S h0) (shS G l r b pool S h0 n) a kf m m2 → GOES G l r k h (fun k' h' => ∃ f' c' C' nm' g', isR h' r b ((z : Int) + 1) f' c' C' nm' g' ∧ Same (rBlk r) h0 h' ∧ CR m2 pool S c' C' nm' g' ∧ (∀ j, j ≤ z → f' j = f j) ∧ KPk c c' g g' ∧ psi k' m2 ≤ psi k m) ∧ lastI m2 a < 0 ∧ (∃ B, Inv m2 pool B) ∧ ScI m2 ∧ m2 0 = m 0 ∧ m2 (18 + 4 * a) = 1
  | kf, m, m2, B, k, f, c, C, nm, g, h, hI, hsc, hnc, ha, ha1, hc2, hR, hf, hSm, hC, hph, hL => by
    have hok := hI.1
    have k0 := hok.2.1
    have k1 := hok.2.2.1
    have k2 := hok.2.2.2.1
    have hsr : SR m := fun u hu => (hsc.2.2 u hu).1
    have stop : lastI m a < 0 → m2 = m → GOES G l r k h (fun k' h' => ∃ f' c' C' nm' g', isR h' r b ((z : Int) + 1) f' c' C' nm' g' ∧ Same (rBlk r) h0 h' ∧ CR m2 pool S c' C' nm' g' ∧ (∀ j, j ≤ z → f' j = f j) ∧ KPk c c' g g' ∧ psi k' m2 ≤ psi k m) ∧ lastI m2 a < 0 ∧ (∃ B, Inv m2 pool B) ∧ ScI m2 ∧ m2 0 = m 0 ∧ m2 (18 + 4 * a) = 1 := fun x1 x2 => by
      subst x2
      exact ⟨GOES.rf ⟨f, c, C, nm, g, hR, hSm, hC, fun _ _ => rfl, KPk.rf, Int.le_refl _⟩, x1, ⟨B, hI⟩, hsc, rfl, ha1⟩
    cases kf with
    | zero => exact stop hL.2.2.1 hL.2.2.2
    | succ kf =>
      obtain ⟨-, -, hL⟩ := hL
      have cc := cnt_r (cngB m) (m 1).toNat
      have co := cnt_r (openB m) (m 0).toNat
      have hkk : k < 900001 := by
        have nc0 := hnc.cnt k1.1
        unfold psi phi at hph; omega
      obtain ⟨n0, T, A, K, L, ⟨Z, e0⟩, ⟨F, f0⟩, Gg, hcr, hCC⟩ := id hC
      have er := e0.2.1
      have lq := last_eq hC hok (by omega) (fun t ht => (hI.2.2.1 t ht).1) hsr (stamp_nn hI hsc) (s := (a : Int)) e0.1
      have lp := lastM_p m (a : Int) (m 1).toNat (m 0).toNat (by omega)
      have hau : (a : Int) < c 1 := by rw [n0.2.1]; exact ha
      have htop : f (((z : Int) + 1).toNat - 1) = 100 + (a : Int) := by rw [show ((z : Int) + 1).toNat - 1 = z by omega]; exact hf
      rcases hL with ⟨x1, x2⟩ | ⟨⟨x1, x1b⟩, m1, ⟨⟨-, sc, ev⟩, ⟨B1, hI1⟩, lt2⟩, x3⟩ | ⟨x1, m1, ⟨-, ss, ⟨B1, hI1⟩, sci1, es⟩, x3⟩
      · exact stop x1 x2
      · rw [if_neg (by omega)] at lq
        have hu : ∃ u : Nat, lastI m a = u ∧ (u : Int) < m 1 ∧ m (258 + 14 * u) = 0 := by
          rcases lp with lp | ⟨u, u1, u2, u3, -⟩ | ⟨u, u1, -⟩
          · exfalso; have : lastI m a = -5 := lp; omega
          · exact ⟨u, u1, by omega, u3⟩
          · exfalso; have : lastI m a = 100 + (u : Int) := u1; omega
        obtain ⟨u, u1, u2, u3⟩ := hu
        rw [u1] at lq
        rw [u1, Int.toNat_natCast] at sc
        have ph1 : psi (k + 1) m = psi k m + 1 := by unfold psi phi; omega
        have P := cr_shutT (G := G) (l := l) 8 hR hcr ⟨by omega, by omega⟩ hau (by omega) e0.1 (by omega) (hCC 2) (t := u) (by rw [n0.1]; exact u2) (by omega) lq
        have eA : m1 0 = m 0 := ev.1 0 (Or.inl rfl)
        have eS : ∀ q, 18 ≤ q → q < 258 → m1 q = m q := fun q x y => ev.1 q (by unfold far; omega)
        have es1 := ev.es
        have k12 := hI1.1.2.2.2.1
        have cg := ev.cng k1.1
        have op1 : cnt (openB m1) (m1 0).toNat = cnt (openB m) (m 0).toNat := by
          rw [eA]; exact cnt_congr _ (fun q hq => by unfold openB; rw [eS _ (by omega) (by omega)])
        have rec1 := fun k' f' c' C' nm' g' h' q1 q2 q3 q4 q5 => sim_shloop hS hSr hb hPo hza kf m1 m2 B1 k' f' c' C' nm' g' h' hI1 (ev.sc hsc k0.2) (es1.2.2.2.1 hnc) (by rw [eA]; exact ha) (by rw [eS _ (by omega) (by omega)]; exact ha1) (fun w w1 w2 => by rw [eA] at w2; rw [eS _ (by omega) (by omega)]; exact hc2 w w1 w2) q1 q2 q3 q4 q5 x3
        have stat : lastI m2 a < 0 ∧ (∃ B, Inv m2 pool B) ∧ ScI m2 ∧ m2 0 = m 0 ∧ m2 (18 + 4 * a) = 1 := by
          have := shl_inv kf m1 m2 B1 hI1 (ev.sc hsc k0.2) (by rw [eA]; exact ha) (by rw [eS _ (by omega) (by omega)]; exact ha1) x3
          rw [eA] at this
          exact this
        refine ⟨?_, stat⟩
        refine (go_scope (k := k) hR ⟨by omega, by omega⟩ (by omega) (by omega) htop P).bind (fun k' h' q => ?_)
        obtain ⟨rfl, q1, q2⟩ := q
        have e1 : ((z : Int) + 1).toNat = z + 1 := by omega
        rw [e1] at q1
        have y1 := CR_cng hC hok (Int.le_refl _) (t := u) u2 u3
        refine ((sc hsr (k + 1) (z + 1) _ _ _ _ _ h' (by rw [show ((z + 1 : Nat) : Int) = (z : Int) + 1 by omega]; exact q1) updI_s (hSm.trans q2) y1 (by unfold btG; rw [updO_s, updO_n (show 2 * u ≠ 2 * u + 1 by omega)]) (by omega) (by unfold psi at hph; unfold phi at hph ⊢; omega))).bind (fun k' h'' q' => ?_)
        obtain ⟨f', c', C', nm', g', w1, w2, w3, w4, ⟨-, w5⟩, w6⟩ := q'
        have kp : KPk c c' g g' := ⟨fun j hj => (w5.1 j hj).trans (by unfold btG; exact updO_n (by omega)), fun j hj hj2 => (w5.2.1 j hj hj2).trans (updI_n (by omega)), w5.2.2.1.trans (updI_n (by omega)), w5.2.2.2.trans (updI_n (by omega))⟩
        have ph2 : psi k' m1 ≤ psi k m := by unfold psi phi; unfold phi at w6; omega
        refine (rec1 k' f' c' C' nm' g' h'' (by rw [show ((z + 1 : Nat) : Int) = (z : Int) + 1 by omega] at w1; exact w1) (by rw [w4 z (by omega), updI_n (by omega)]; exact hf) w2 w3 (by omega)).1.mono (fun k'' h3 v => ?_)
        obtain ⟨f3, c3, C3, nm3, g3, v1, v2, v3, v4, v5, v6⟩ := v
        exact ⟨f3, c3, C3, nm3, g3, v1, v2, v3, fun j hj => (v4 j hj).trans ((w4 j (by omega)).trans (updI_n (by omega))), kp.tr v5, by omega⟩
      · rw [if_neg (by omega)] at lq
        have hu : ∃ u : Nat, lastI m a = 100 + (u : Int) ∧ 1 ≤ u ∧ (u : Int) < m 0 ∧ m (18 + 4 * u) = 0 ∧ m (19 + 4 * u) = a := by
          rcases lp with lp | ⟨u, u1, u2, u3, -⟩ | ⟨u, u1, u2, u3, u4, u5⟩
          · exfalso; have : lastI m a = -5 := lp; omega
          · exfalso; have : lastI m a = (u : Int) := u1; omega
          · exact ⟨u, u1, u2, by omega, u4, u5⟩
        obtain ⟨u, u1, u2, u3, u4, u5⟩ := hu
        rw [u1] at lq
        have lau := ((hsc.2.2 u u3).2 u2).1.2
        have ph1 : psi (k + 1) m = psi k m + 1 := by unfold psi phi; omega
        have P := cr_shutS (G := G) (l := l) 8 hR hcr ⟨by omega, by omega⟩ hau (by omega) e0.1 (by omega) (hCC 2) (q := u) (by rw [n0.2.1]; exact u3) (by omega) lq
        have eA : m1 0 = m 0 := es.1 0 (Or.inl rfl)
        have st1 : m1 (18 + 4 * a) = 1 := by
          rcases es.2.1 a (by omega) with w | w
          · rw [w]; exact ha1
          · rw [ha1] at w; exact absurd w.1 (by decide)
        have rec1 := fun k' f' c' C' nm' g' h' q1 q2 q3 q4 q5 => sim_shloop hS hSr hb hPo hza kf m1 m2 B1 k' f' c' C' nm' g' h' hI1 sci1 (es.2.2.2.1 hnc) (by rw [eA]; exact ha) st1 (fun w w1 w2 => by
          rw [eA] at w2
          rcases es.2.1 w (by omega) with v | v
          · rw [v]; exact hc2 w w1 w2
          · rw [v.2.1]; decide) q1 q2 q3 q4 q5 x3
        have stat : lastI m2 a < 0 ∧ (∃ B, Inv m2 pool B) ∧ ScI m2 ∧ m2 0 = m 0 ∧ m2 (18 + 4 * a) = 1 := by
          have := shl_inv kf m1 m2 B1 hI1 sci1 (by rw [eA]; exact ha) st1 x3
          rw [eA] at this
          exact this
        refine ⟨?_, stat⟩
        refine (go_scope (k := k) hR ⟨by omega, by omega⟩ (by omega) (by omega) htop P).bind (fun k' h' q => ?_)
        obtain ⟨rfl, q1, q2⟩ := q
        have e1 : ((z : Int) + 1).toNat = z + 1 := by omega
        rw [e1] at q1
        have y1 := CR_scb hC hok (Int.le_refl _) (a := u) u3 u4
        refine ((ss u (by rw [u1]; omega) u3 u4 (k + 1) (z + 1) _ _ _ _ _ h' (by rw [show ((z + 1 : Nat) : Int) = (z : Int) + 1 by omega]; exact q1) updI_s (hSm.trans q2) y1 (by omega) (by omega))).bind (fun k' h'' q' => ?_)
        obtain ⟨f', c', C', nm', g', w1, w2, w3, w4, w5, w6⟩ := q'
        rw [if_neg (by omega)] at w6
        have kp : KPk c c' g g' := ⟨w5.1, fun j hj hj2 => (w5.2.1 j hj hj2).trans (updI_n (by omega)), w5.2.2.1.trans (updI_n (by omega)), w5.2.2.2.trans (updI_n (by omega))⟩
        refine (rec1 k' f' c' C' nm' g' h'' (by rw [show ((z + 1 : Nat) : Int) = (z : Int) + 1 by omega] at w1; exact w1) (by rw [w4 z (by omega), updI_n (by omega)]; exact hf) w2 w3 (by omega)).1.mono (fun k'' h3 v => ?_)
        obtain ⟨f3, c3, C3, nm3, g3, v1, v2, v3, v4, v5, v6⟩ := v
        exact ⟨f3, c3, C3, nm3, g3, v1, v2, v3, fun j hj => (v4 j hj).trans ((w4 j (by omega)).trans (updI_n (by omega))), kp.tr v5, by omega⟩
end SH
end mg_a5
section mg_a6
/-! ===== a shutting, whole ===== -/
section SH2
variable {G : mG} {l : Launch} {r : Nat} {b : Int} {pool : Nat → Int} {S : Nat → Option mO} {h0 : mH} {n : Nat}
theorem sci_b {m : Nat → Int} (hsc : ScI m) (h60 : m 0 ≤ 60) {s : Nat} (ho : m (18 + 4 * s) = 0) : ScI (updI m (18 + 4 * s) 1) := by
  have e : ∀ q, ¬ q = 18 + 4 * s → updI m (18 + 4 * s) 1 q = m q := fun q a => updI_n a
  obtain ⟨s1, s2, s3⟩ := hsc
  refine ⟨by rw [e _ (by omega)]; exact s1, ?_, fun c hcc => ?_⟩
  · by_cases z : s = 0
    · subst z; rw [updI_s]; decide
    · rw [e _ (by omega)]; exact s2
  · rw [e 0 (by omega)] at hcc
    obtain ⟨a, b⟩ := s3 c hcc
    rw [e (19 + 4 * c) (by omega), e (20 + 4 * c) (by omega), e 6 (by omega)]
    refine ⟨?_, fun h1 => ?_⟩
    · by_cases z : c = s
      · subst z; rw [updI_s]; decide
      · rw [e _ (by omega)]; exact a
    · obtain ⟨b1, b2, b3⟩ := b h1
      refine ⟨b1, b2, fun z => ?_⟩
      by_cases g : (m (19 + 4 * c)).toNat = s
      · rw [g, updI_s]; decide
      · rw [e _ (by omega)]
        refine b3 ?_
        by_cases g2 : c = s
        · subst g2; rw [ho]; decide
        · rw [e _ (by omega)] at z; exact z
/-- how many are open, when one's state changes -/
theorem cnt_open {m : Nat → Int} {s N : Nat} {v : Int} (hs : s < N) : cnt (openB (updI m (18 + 4 * s) v)) N = cnt (openB m) N - (if m (18 + 4 * s) = 0 then 1 else 0) + (if v = 0 then 1 else 0) := by
  have ne : ∀ q, ¬ q = s → openB (updI m (18 + 4 * s) v) q = openB m q := fun q hq => by unfold openB; rw [updI_n (by omega)]
  by_cases a : m (18 + 4 * s) = 0
  · have p1 : openB m s = true := decide_eq_true a
    rw [if_pos a]
    by_cases c : v = 0
    · have ee : cnt (openB (updI m (18 + 4 * s) v)) N = cnt (openB m) N := cnt_congr N (fun q hq => by
        by_cases w : q = s
        · rw [w, p1]; show decide (updI m (18 + 4 * s) v (18 + 4 * s) = 0) = true; rw [updI_s]; exact decide_eq_true c
        · exact ne q w)
      rw [if_pos c, ee]
      omega
    · rw [if_neg c]
      have p2 : openB (updI m (18 + 4 * s) v) s = false := by unfold openB; rw [updI_s]; exact decide_eq_false c
      have y := cnt_upd (p := openB (updI m (18 + 4 * s) v)) (p' := openB m) (M := N) p2 p1 (fun q _ hq => ne q hq) N (Nat.le_refl _)
      rw [if_pos hs] at y
      omega
  · have p1 : openB m s = false := decide_eq_false a
    rw [if_neg a]
    by_cases c : v = 0
    · rw [if_pos c]
      have p2 : openB (updI m (18 + 4 * s) v) s = true := by unfold openB; rw [updI_s]; exact decide_eq_true c
      have y := cnt_upd (p := openB m) (p' := openB (updI m (18 + 4 * s) v)) (M := N) p1 p2 (fun q _ hq => (ne q hq).symm) N (Nat.le_refl _)
      rw [if_pos hs] at y
      omega
    · have ee : cnt (openB (updI m (18 + 4 * s) v)) N = cnt (openB m) N := cnt_congr N (fun q hq => by
        by_cases w : q = s
        · rw [w, p1]; show decide (updI m (18 + 4 * s) v (18 + 4 * s) = 0) = false; rw [updI_s]; exact decide_eq_false c
        · exact ne q w)
      rw [if_neg c, ee]
      omega
theorem phi_sc {k : Nat} {m : Nat → Int} {s : Nat} {v : Int} (hs : s < 60) : phi k (updI m (18 + 4 * s) v) = phi k m := by
  have ee : cnt (cngB (updI m (18 + 4 * s) v)) (m 1).toNat = cnt (cngB m) (m 1).toNat := cnt_congr _ (fun q hq => by
    show decide (updI m (18 + 4 * s) v (258 + 14 * q) = 1) = decide (m (258 + 14 * q) = 1)
    rw [updI_n (by omega)])
  unfold phi
  rw [updI_n (by omega), updI_n (by omega), ee]
theorem sim_shuts (hS : ∀ a o, S a = some o → hGet h0 a = some o) (hSr : ∀ a, ¬ S a = none → ¬ rBlk r a) (hb : -1 ≤ b ∧ b ≤ 9) (hPo : poolOk pool) {m m' : Nat → Int} {a : Nat} {B : Int} (hI : Inv m pool B) (hsc : ScI m) (hnc : NC m) (hc2 : ∀ c : Nat, a < c → (c : Int) < m 0 → ¬ m (18 + 4 * c) = 1) (hD : shB (clT G l r b pool S h0) (shS G l r b pool S h0 n) m (a : Int) m') : SIMS G l r b pool S h0 m (a : Int) m' := by
  intro a' ea ha ha0 k z f c C nm g h hR hf hSm hC hza hph
  have : a' = a := by omega
  subst this
  have hok := hI.1
  have k0 := hok.2.1
  have k1 := hok.2.2.1
  obtain ⟨-, -, ⟨x, -⟩ | ⟨-, kf, m2, hL, rfl⟩⟩ := hD
  · exact absurd (openP_nat.mpr ⟨ha, ha0⟩) x
  have e18 : (18 + 4 * (a' : Int)).toNat = 18 + 4 * a' := by omega
  rw [e18] at hL ⊢
  have um : ∀ q, ¬ q = 18 + 4 * a' → updI m (18 + 4 * a') 1 q = m q := fun q w => updI_n w
  have co := cnt_open (m := m) (s := a') (N := (m 0).toNat) (v := 1) (by omega)
  rw [if_pos ha0, if_neg (by decide)] at co
  have ph1 : psi k (updI m (18 + 4 * a') 1) = psi k m - 300 := by
    unfold psi
    rw [phi_sc (by omega), um 0 (by omega), um 2 (by omega), co]
    omega
  obtain ⟨go, li, ⟨B2, hI2⟩, sci2, m20, st2⟩ := sim_shloop (n := n) hS hSr hb hPo (z := z) hza kf (updI m (18 + 4 * a') 1) m2 B k f c C nm g h (hI.scope (by omega) (by decide)) (sci_b hsc k0.2 ha0) (fun t ht => by rw [um 1 (by omega)] at ht; rw [um _ (by omega)]; exact hnc t ht) (by rw [um 0 (by omega)]; exact ha) updI_s (fun w w1 w2 => by rw [um 0 (by omega)] at w2; rw [um _ (by omega)]; exact hc2 w w1 w2) hR hf hSm hC (by rw [ph1]; omega) hL
  rw [um 0 (by omega)] at m20
  have hok2 := hI2.1
  have k02 := hok2.2.1
  have k12 := hok2.2.2.1
  have k22 := hok2.2.2.2.1
  refine go.bind (fun k' h' q => ?_)
  obtain ⟨f', c', C', nm', g', q1, q2, q3, q4, q5, q6⟩ := q
  obtain ⟨n0, T, A, K, L, ⟨Z, e0⟩, ⟨F, f0⟩, Gg, hc, hCC⟩ := id q3
  have er := e0.2.1
  have lq := last_eq q3 hok2 (by omega) (fun t ht => (hI2.2.2.1 t ht).1) (fun u hu => (sci2.2.2 u hu).1) (stamp_nn hI2 sci2) (s := (a' : Int)) e0.1
  rw [if_pos li] at lq
  have cc2 := cnt_r (cngB m2) (m2 1).toNat
  have co2 := cnt_r (openB m2) (m2 0).toNat
  have hkb : k' < 1000000 := by unfold psi phi at q6; unfold psi phi at ph1 hph; omega
  have P := cr_shutNow (G := G) (l := l) 8 q1 hc (u := a') (by rw [n0.2.1, m20]; exact ha) (by omega) e0.1 (by omega) (hCC 2) ⟨by omega, by omega⟩ (by omega) lq
  refine (go_scope (k := k') q1 ⟨by omega, by omega⟩ hkb (by omega) (by rw [show ((z : Int) + 1).toNat - 1 = z by omega, q4 z (Nat.le_refl _)]; exact hf) P).mono (fun k'' h'' w => ?_)
  obtain ⟨rfl, w1, w2⟩ := w
  have y := CR_sce q3 hok2 (a := a') (by rw [m20]; exact ha) st2 e0.1
  have eqi : (if (a' : Int) = 0 then (0 : Int) else 2) = if a' = 0 then 0 else 2 := by
    by_cases w : a' = 0
    · subst w; rfl
    · rw [if_neg w, if_neg (by omega)]
  rw [eqi]
  have gs : ∀ q, ¬ q = 304 + 3 * a' → ¬ q = 10 → gsC c' a' (cnt (notB (100 + (a' : Int)) (C' 2)) Z) q = c' q := fun q u w => by unfold gsC; rw [updI_n w, updI_n u]
  refine ⟨f', _, _, nm', g', by rw [show (z : Int) + 1 - 1 = z by omega] at w1; exact w1, q2.trans w2, y, fun j hj => q4 j (by omega), ⟨q5.1, fun q hq hq2 => ?_, ?_, ?_⟩, ?_⟩
  · rw [gs q (by omega) (by omega)]; exact q5.2.1 q hq hq2
  · rw [gs 3 (by omega) (by omega)]; exact q5.2.2.1
  · rw [gs 4 (by omega) (by omega)]; exact q5.2.2.2
  · have co3 := cnt_open (m := m2) (s := a') (N := (m2 0).toNat) (v := if a' = 0 then 0 else 2) (by omega)
    rw [st2, show (if (1 : Int) = 0 then (1 : Int) else 0) = 0 from rfl] at co3
    have pe : psi (k' + 1) (updI m2 (18 + 4 * a') (if a' = 0 then 0 else 2)) = psi k' m2 + 1 + 300 * (if (if a' = 0 then (0 : Int) else 2) = 0 then 1 else 0) := by
      unfold psi
      rw [phi_sc (by omega), updI_n (show 0 ≠ 18 + 4 * a' by omega), updI_n (show 2 ≠ 18 + 4 * a' by omega), co3]
      unfold phi
      omega
    rw [pe]
    by_cases w : a' = 0
    · rw [if_pos w, if_pos w, if_pos rfl]; omega
    · rw [if_neg w, if_neg w, if_neg (by decide)]; omega
theorem simS_all (hS : ∀ a o, S a = some o → hGet h0 a = some o) (hSr : ∀ a, ¬ S a = none → ¬ rBlk r a) (hb : -1 ≤ b ∧ b ≤ 9) (hPo : poolOk pool) : ∀ n, SXG (shS G l r b pool S h0 n) pool n
  | 0 => fun m s B h hsc hnc hB hn hs hc => by
    have := h.1.2.1
    omega
  | n + 1 => fun m s B h hsc hnc hB hn hs hc => by
    obtain ⟨m', a, a2, a3, a4, a5⟩ := shuts_exg (simT_all (G := G) (l := l) hS hSr hb hPo) (simS_all hS hSr hb hPo n) m s B h hsc hnc hB hn hs hc
    exact ⟨m', ⟨shB_mo (cl := clT G l r b pool S h0) (sh := shS G l r b pool S h0 n) (fun _ _ _ x => x.1.1) (fun _ _ _ x => x.1) a, sim_shuts hS hSr hb hPo h hsc hnc hc a, ⟨B, a2⟩, a3, a4⟩, a2, a3, a4, a5⟩
end SH2
end mg_a6
section mg_a7
/-! ===== the tasks of both sides ===== -/
def tkA (m pool c : Nat → Int) (S : Nat → Option mO) (g : Nat → Option Nat) (q : Nat) : Prop :=
  c (488 + 9 * q) = m (1615 + 72 * q) ∧ c (490 + 9 * q) = m (1609 + 72 * q) ∧ c (491 + 9 * q) = m (1612 + 72 * q) ∧ c (492 + 9 * q) = m (1613 + 72 * q) ∧ c (493 + 9 * q) = m (1608 + 72 * q) ∧ c (495 + 9 * q) = m (1618 + 72 * q) ∧
  ∃ b hi n P E : Nat, m (1616 + 72 * q) = P ∧ m (1617 + 72 * q) = E ∧ g (180 + 2 * q) = some b ∧ stL S pool n true 0 b hi P E
/-- where a task goes on -/
def rsT (pool : Nat → Int) (S : Nat → Option mO) (v : Option Nat) (o p E : Nat) : Prop := (E ≤ p ∧ v = none) ∨ (p < E ∧ ∃ b hi n : Nat, v = some b ∧ stL S pool n true o b hi p E)
def tkC (m pool c : Nat → Int) (S : Nat → Option mO) (g : Nat → Option Nat) (q : Nat) : Prop :=
  m (1610 + 72 * q) = 0 → m (1618 + 72 * q) = 0 ∧ ∃ o p E : Nat, m (1619 + 72 * q) = (o : Int) + 1 ∧ m (1617 + 72 * q) = E ∧ m (1611 + 72 * q) = p ∧ c (494 + 9 * q) = m (1620 + 72 * q + o) ∧ rsT pool S (g (181 + 2 * q)) o p E
def TKR (m pool c : Nat → Int) (S : Nat → Option mO) (g : Nat → Option Nat) (t0 : Nat) : Prop := c 3 = m 7 ∧ ∀ q : Nat, (q : Int) < m 3 → tkA m pool c S g q ∧ (¬ q = t0 → tkC m pool c S g q)
section TKs
variable {m m' pool c c' : Nat → Int} {S : Nat → Option mO} {g g' : Nat → Option Nat} {t0 : Nat}
theorem tkA_c {q : Nat} (h : tkA m pool c S g q) (hm : ∀ k, 1608 + 72 * q ≤ k → k < 1619 + 72 * q → ¬ k = 1614 + 72 * q → ¬ k = 1610 + 72 * q → ¬ k = 1611 + 72 * q → m' k = m k) (hc : ∀ k, 488 + 9 * q ≤ k → k < 496 + 9 * q → ¬ k = 494 + 9 * q → ¬ k = 489 + 9 * q → c' k = c k) (hg : g' (180 + 2 * q) = g (180 + 2 * q)) : tkA m' pool c' S g' q := by
  obtain ⟨a1, a2, a3, a4, a5, a6, b, hi, n, P, E, e1, e2, e3, e4⟩ := h
  refine ⟨?_, ?_, ?_, ?_, ?_, ?_, b, hi, n, P, E, ?_, ?_, ?_, e4⟩
  · rw [hc _ (by omega) (by omega) (by omega) (by omega), hm _ (by omega) (by omega) (by omega) (by omega) (by omega)]; exact a1
  · rw [hc _ (by omega) (by omega) (by omega) (by omega), hm _ (by omega) (by omega) (by omega) (by omega) (by omega)]; exact a2
  · rw [hc _ (by omega) (by omega) (by omega) (by omega), hm _ (by omega) (by omega) (by omega) (by omega) (by omega)]; exact a3
  · rw [hc _ (by omega) (by omega) (by omega) (by omega), hm _ (by omega) (by omega) (by omega) (by omega) (by omega)]; exact a4
  · rw [hc _ (by omega) (by omega) (by omega) (by omega), hm _ (by omega) (by omega) (by omega) (by omega) (by omega)]; exact a5
  · rw [hc _ (by omega) (by omega) (by omega) (by omega), hm _ (by omega) (by omega) (by omega) (by omega) (by omega)]; exact a6
  · rw [hm _ (by omega) (by omega) (by omega) (by omega) (by omega)]; exact e1
  · rw [hm _ (by omega) (by omega) (by omega) (by omega) (by omega)]; exact e2
  · rw [hg]; exact e3
theorem tkC_c {q : Nat} (h : tkC m pool c S g q) (hm : ∀ k, 1608 + 72 * q ≤ k → k < 1680 + 72 * q → ¬ k = 1614 + 72 * q → m' k = m k) (hO : ∃ n : Nat, m (1619 + 72 * q) = n ∧ n ≤ 60) (hc : c' (494 + 9 * q) = c (494 + 9 * q)) (hg : g' (181 + 2 * q) = g (181 + 2 * q)) : tkC m' pool c' S g' q := by
  intro z
  rw [hm _ (by omega) (by omega) (by omega)] at z
  obtain ⟨z0, o, p, E, e1, e2, e3, e4, e5⟩ := h z
  obtain ⟨n, n1, n2⟩ := hO
  refine ⟨by rw [hm _ (by omega) (by omega) (by omega)]; exact z0, o, p, E, ?_, ?_, ?_, ?_, ?_⟩
  · rw [hm _ (by omega) (by omega) (by omega)]; exact e1
  · rw [hm _ (by omega) (by omega) (by omega)]; exact e2
  · rw [hm _ (by omega) (by omega) (by omega)]; exact e3
  · rw [hc, hm _ (by omega) (by omega) (by omega)]; exact e4
  · rw [hg]; exact e5
/-- closings and shuttings touch no task -/
theorem TKR.kp (h : TKR m pool c S g t0) (k3 : m 3 ≤ 10) (hn : ∀ q : Nat, (q : Int) < m 3 → ∃ n : Nat, m (1619 + 72 * q) = n ∧ n ≤ 60) (k : KPk c c' g g') (h3 : m' 3 = m 3) (h7 : m' 7 = m 7) (hm : ∀ q, 1608 ≤ q → q < 2328 → (∀ t : Nat, q ≠ 1614 + 72 * t) → m' q = m q) : TKR m' pool c' S g' t0 := by
  obtain ⟨a, b⟩ := h
  obtain ⟨k1, k2, k30, k4⟩ := k
  refine ⟨by rw [k30, h7]; exact a, fun q hq => ?_⟩
  rw [h3] at hq
  obtain ⟨b1, b2⟩ := b q hq
  exact ⟨tkA_c b1 (fun j x y z _ _ => hm j (by omega) (by omega) (fun t w => by omega)) (fun j x y z _ => k2 j (by omega) (fun t w => by omega)) (k1 _ (by omega)), fun z => tkC_c (b2 z) (fun j x y w => hm j (by omega) (by omega) (fun t w => by omega)) (hn q hq) (k2 _ (by omega) (fun t w => by omega)) (k1 _ (by omega))⟩
end TKs
/-! which task has the next turn -/
theorem ah_tr {m : Nat → Int} {a b c : Nat} (h : aheadP m a b) (k : aheadP m b c) : aheadP m a c := by unfold aheadP at h k ⊢; omega
theorem ah_to {m : Nat → Int} {a b : Nat} (h : ¬ a = b) (k : ¬ aheadP m a b) : aheadP m b a := by unfold aheadP at k ⊢; omega
theorem nx_a {m : Nat → Int} : ∀ (n t a : Nat), a < t → ∃ w : Nat, nxL m n t (a : Int) = w ∧ (w = a ∨ (t ≤ w ∧ w < t + n ∧ readyB m w = true ∧ aheadP m w a)) ∧ ∀ u, t ≤ u → u < t + n → readyB m u = true → u = w ∨ aheadP m w u
  | 0, t, a, h => ⟨a, rfl, Or.inl rfl, fun u x y => by omega⟩
  | n + 1, t, a, h => by
    unfold nxL
    by_cases c : readyB m t = true ∧ ((a : Int) < 0 ∨ aheadP m t ((a : Int)).toNat)
    · rw [if_pos c]
      have c2 : aheadP m t a := by
        rcases c.2 with x | x
        · omega
        · rw [show ((a : Int)).toNat = a by omega] at x; exact x
      obtain ⟨w, e, w1, w2⟩ := nx_a (m := m) n (t + 1) t (by omega)
      refine ⟨w, e, Or.inr ?_, fun u x y z => ?_⟩
      · rcases w1 with rfl | ⟨w3, w4, w5, w6⟩
        · exact ⟨by omega, by omega, c.1, c2⟩
        · exact ⟨by omega, by omega, w5, ah_tr w6 c2⟩
      · by_cases q : u = t
        · subst q
          rcases w1 with rfl | ⟨w3, w4, w5, w6⟩
          · exact Or.inl rfl
          · exact Or.inr w6
        · exact w2 u (by omega) (by omega) z
    · rw [if_neg c]
      obtain ⟨w, e, w1, w2⟩ := nx_a (m := m) n (t + 1) a (by omega)
      refine ⟨w, e, ?_, fun u x y z => ?_⟩
      · rcases w1 with rfl | ⟨w3, w4, w5, w6⟩
        · exact Or.inl rfl
        · exact Or.inr ⟨by omega, by omega, w5, w6⟩
      · by_cases q : u = t
        · subst q
          have c2 : ¬ aheadP m u a := fun g => c ⟨z, Or.inr (by rw [show ((a : Int)).toNat = a by omega]; exact g)⟩
          have c3 := ah_to (by omega) c2
          rcases w1 with rfl | ⟨w3, w4, w5, w6⟩
          · exact Or.inr c3
          · exact Or.inr (ah_tr w6 c3)
        · exact w2 u (by omega) (by omega) z
theorem nx_n {m : Nat → Int} : ∀ (n t : Nat), (nxL m n t (-5) = -5 ∧ ∀ u, t ≤ u → u < t + n → ¬ readyB m u = true) ∨ ∃ w : Nat, nxL m n t (-5) = w ∧ (t ≤ w ∧ w < t + n ∧ readyB m w = true) ∧ ∀ u, t ≤ u → u < t + n → readyB m u = true → u = w ∨ aheadP m w u
  | 0, t => Or.inl ⟨rfl, fun u x y => by omega⟩
  | n + 1, t => by
    unfold nxL
    by_cases c : readyB m t = true
    · rw [if_pos ⟨c, Or.inl (by decide)⟩]
      obtain ⟨w, e, w1, w2⟩ := nx_a (m := m) n (t + 1) t (by omega)
      refine Or.inr ⟨w, e, ?_, fun u x y z => ?_⟩
      · rcases w1 with rfl | ⟨w3, w4, w5, w6⟩
        · exact ⟨by omega, by omega, c⟩
        · exact ⟨by omega, by omega, w5⟩
      · by_cases q : u = t
        · subst q
          rcases w1 with rfl | ⟨w3, w4, w5, w6⟩
          · exact Or.inl rfl
          · exact Or.inr w6
        · exact w2 u (by omega) (by omega) z
    · rw [if_neg (fun g => c g.1)]
      rcases nx_n (m := m) n (t + 1) with ⟨e, w⟩ | ⟨w, e, w1, w2⟩
      · refine Or.inl ⟨e, fun u x y => ?_⟩
        by_cases q : u = t
        · subst q; exact c
        · exact w u (by omega) (by omega)
      · refine Or.inr ⟨w, e, ⟨by omega, by omega, w1.2.2⟩, fun u x y z => ?_⟩
        by_cases q : u = t
        · subst q; exact absurd z c
        · exact w2 u (by omega) (by omega) z
theorem cnt_one {p : Nat → Bool} {w : Nat} (h : p w = true) : ∀ n, w < n → 1 ≤ cnt p n
  | 0, k => absurd k (Nat.not_lt_zero _)
  | n + 1, k => by
    rw [cnt_S]
    by_cases c : w = n
    · subst c
      have := cnt_r p w
      rw [if_pos h]; omega
    · have := cnt_one h n (by omega)
      split <;> omega
theorem rp_n {c : Nat → Int} {K : Nat} : ∀ n t : Nat, (∀ u, t ≤ u → u < t + n → ¬ c (489 + 9 * u) = 0) → rpL c K 0 n t = -5
  | 0, t, _ => rfl
  | n + 1, t, h => by
    unfold rpL
    rw [if_neg (fun g => h t (Nat.le_refl _) (by omega) g.1)]
    exact rp_n n (t + 1) (fun u x y => h u (by omega) (by omega))
theorem rp_w {c : Nat → Int} {K w : Nat} (h1 : c (489 + 9 * w) = 0) (h2 : cnt (raB c w) K = 0) (h3 : ∀ u, u < K → ¬ u = w → c (489 + 9 * u) = 0 → 1 ≤ cnt (raB c u) K) : ∀ n t : Nat, t ≤ w → w < t + n → t + n ≤ K → rpL c K 0 n t = w
  | 0, t, x, y, _ => by omega
  | n + 1, t, x, y, z => by
    unfold rpL
    by_cases q : t = w
    · subst q
      rw [if_pos ⟨h1, h2⟩]
    · rw [if_neg (fun g => by have := h3 t (by omega) q g.1; omega)]
      exact rp_w h1 h2 h3 n (t + 1) (by omega) (by omega) (by omega)
theorem next_eq {m pool c : Nat → Int} {S : Nat → Option mO} {g : Nat → Option Nat} (hK : crK m c) (hT : TKR m pool c S g 99) {K : Nat} (h3 : m 3 = (K : Int)) (h10 : K ≤ 10) : rpL c K 0 K 0 = nextV m := by
  have rd : ∀ u, u < K → (readyB m u = true ↔ c (489 + 9 * u) = 0) := fun u hu => by
    rw [(hK u (by omega)).1]; unfold readyB; exact decide_eq_true_iff
  have ra : ∀ a u, a < K → u < K → (raB c a u = true ↔ (c (489 + 9 * u) = 0 ∧ aheadP m u a)) := fun a u ha hu => by
    obtain ⟨⟨-, p1, -, l1, -⟩, -⟩ := hT.2 a (by omega)
    obtain ⟨⟨-, p2, -, l2, -⟩, -⟩ := hT.2 u (by omega)
    unfold raB caP
    rw [decide_eq_true_iff, p1, p2, l1, l2]
    refine and_congr Iff.rfl ?_
    unfold aheadP
    constructor <;> intro g <;> omega
  unfold nextV
  rw [h3, show ((K : Int)).toNat = K by omega]
  rcases nx_n (m := m) K 0 with ⟨e, w⟩ | ⟨w, e, ⟨-, w1, w2⟩, w3⟩
  · rw [e]; exact rp_n K 0 (fun u x y z => w u x y ((rd u (by omega)).mpr z))
  · rw [e]
    refine rp_w ((rd w (by omega)).mp w2) (cnt_zero K (fun j hj => ?_)) (fun u hu hu2 hu3 => ?_) K 0 (by omega) w1 (by omega)
    · rw [← Bool.not_eq_true]
      intro g
      have g := (ra w j (by omega) hj).mp g
      rcases w3 j (by omega) (by omega) ((rd j hj).mpr g.1) with z | z
      · subst z; have := g.2; unfold aheadP at this; omega
      · have z2 := g.2; unfold aheadP at z z2; omega
    · have z := w3 u (by omega) (by omega) ((rd u hu).mpr hu3)
      refine cnt_one (w := w) ((ra u w hu (by omega)).mpr ⟨(rd w (by omega)).mp w2, ?_⟩) K (by omega)
      rcases z with z | z
      · exact absurd z hu2
      · exact z
/-! how many faults a task has -/
theorem flt_cnt {m c : Nat → Int} {C : Nat → Nat → Int} {x : Int} {F : Nat} (h : crF m c C x F) (q : Nat) : ∀ n, n ≤ F → cnt (faultB m q) (cnt (faB (C 5)) n).toNat = cnt (gbB 0 (C 5) q) n
  | 0, _ => rfl
  | n + 1, hn => by
    have ih := flt_cnt h q n (by omega)
    have r := cnt_r (faB (C 5)) n
    rw [cnt_S, cnt_S (p := gbB 0 (C 5) q), ← ih]
    by_cases c0 : 0 ≤ C 5 n
    · obtain ⟨e, -⟩ := h.2.2.2.2.1 n (by omega) c0
      rw [if_pos (show faB (C 5) n = true from decide_eq_true c0), show (cnt (faB (C 5)) n + 1).toNat = (cnt (faB (C 5)) n).toNat + 1 by omega, cnt_S]
      have e2 : faultB m q (cnt (faB (C 5)) n).toNat = gbB 0 (C 5) q n := by
        unfold faultB gbB
        rw [e]
        by_cases z : C 5 n = (q : Int)
        · rw [decide_eq_true z, decide_eq_true (p := 0 ≤ n ∧ C 5 n = (q : Int)) ⟨Nat.zero_le _, z⟩]
        · rw [decide_eq_false z, decide_eq_false (p := 0 ≤ n ∧ C 5 n = (q : Int)) (fun g => z g.2)]
      rw [e2]
    · rw [if_neg (show ¬ faB (C 5) n = true from fun g => c0 (of_decide_eq_true g)), if_neg (show ¬ gbB 0 (C 5) q n = true from fun g => c0 (by have := (of_decide_eq_true g).2; omega)), Int.add_zero, Int.add_zero]
/-! whether its scopes are open, it isn't asked to cancel -/
theorem fine_l {m : Nat → Int} {t : Int} : ∀ (n k : Nat) (b : Bool), fineL m t n k b = true ↔ b = true ∧ ∀ j : Nat, k ≤ j → j < k + n → openP m (m (1620 + 72 * t + j).toNat)
  | 0, k, b => ⟨fun g => ⟨g, fun j x y => by omega⟩, fun g => g.1⟩
  | n + 1, k, b => by
    unfold fineL
    rw [fine_l n (k + 1), Bool.and_eq_true, decide_eq_true_iff]
    constructor
    · rintro ⟨⟨a, b⟩, d⟩
      refine ⟨a, fun j x y => ?_⟩
      by_cases e : j = k
      · subst e; exact b
      · exact d j (by omega) (by omega)
    · rintro ⟨a, d⟩
      exact ⟨⟨a, d k (Nat.le_refl _) (by omega)⟩, fun j x y => d j (by omega) (by omega)⟩
theorem chain_op {m : Nat → Int} (hs : ScI m) (hns : NS m) (h60 : m 0 ≤ 60) {t o : Nat} (hk : stkOk m t (o + 1)) (h : m (18 + 4 * (m (1620 + 72 * t + o)).toNat) = 0) : ∀ i j : Nat, j + i = o → m (18 + 4 * (m (1620 + 72 * t + j)).toNat) = 0
  | 0, j, e => by rw [show j = o by omega]; exact h
  | i + 1, j, e => by
    have ih := chain_op hs hns h60 hk h i (j + 1) (by omega)
    obtain ⟨-, k1, k2⟩ := hk
    have a := k1 (j + 1) (by omega)
    have a0 := k1 j (by omega)
    have b := k2 j (by omega)
    obtain ⟨-, x⟩ := hs.2.2 (m (1620 + 72 * t + (j + 1))).toNat (by omega)
    obtain ⟨-, -, y⟩ := x (by omega)
    rw [b] at y
    have z := y (by rw [ih]; decide)
    have r := (hs.2.2 (m (1620 + 72 * t + j)).toNat (by omega)).1
    have w := hns (m (1620 + 72 * t + j)).toNat (by omega)
    omega
theorem fine_iff {m : Nat → Int} (hs : ScI m) (hns : NS m) (h60 : m 0 ≤ 60) {t o u : Nat} (hn : m (1619 + 72 * t) = (o : Int) + 1) (hk : stkOk m t (o + 1)) (hu : m (1620 + 72 * t + o) = u) : fineV m (t : Int) = true ↔ m (1614 + 72 * t) = 0 ∧ m (18 + 4 * u) = 0 := by
  unfold fineV
  rw [fine_l, decide_eq_true_iff, show (1614 + 72 * (t : Int)).toNat = 1614 + 72 * t by omega, show (1619 + 72 * (t : Int)).toNat = 1619 + 72 * t by omega, hn, show ((o : Int) + 1).toNat = o + 1 by omega]
  refine and_congr Iff.rfl ?_
  have ej : ∀ j : Nat, (1620 + 72 * (t : Int) + (j : Int)).toNat = 1620 + 72 * t + j := fun j => by omega
  constructor
  · intro g
    have x := g o (by omega) (by omega)
    rw [ej, hu] at x
    exact (openP_nat.mp x).2
  · intro g j _ hj
    rw [ej]
    have c := chain_op hs hns h60 hk (by rw [hu, show ((u : Int)).toNat = u by omega]; exact g) (o - j) j (by omega)
    have a := hk.2.1 j (by omega)
    rw [show m (1620 + 72 * t + j) = (((m (1620 + 72 * t + j)).toNat : Nat) : Int) by omega]
    exact openP_nat.mpr ⟨by omega, c⟩
end mg_a7
section mg_a8
/-! ===== a step of a task, on both sides ===== -/
theorem RUNM.ex {G : mG} {l : Launch} {d : Nat} {M : mM} {args : List Value} {h : mH} {Q : Option Value → mH → Prop} (k : RUNM G l d M args h Q) : ∃ v h', Q v h' ∧ RUNM G l d M args h (fun v' h'' => v' = v ∧ h'' = h') := by
  obtain ⟨a, b, v, h', e, q⟩ := k
  exact ⟨v, h', q, a, b, v, h', e, rfl, rfl⟩
/-- what a step of another kind than ( and ) leaves alone -/
def few (m m' : Nat → Int) : Prop := m' 0 = m 0 ∧ m 2 ≤ m' 2 ∧ (∀ c : Nat, c < 60 → m' (18 + 4 * c) = m (18 + 4 * c)) ∧ ∀ k, 1608 ≤ k → k < 2328 → (∀ t : Nat, k ≠ 1614 + 72 * t) → m' k = m k
theorem few.rf {m : Nat → Int} : few m m := ⟨rfl, Int.le_refl _, fun _ _ => rfl, fun _ _ _ _ => rfl⟩
theorem stp_few {m m' pool : Nat → Int} {p : Nat} {s2 f : Int} {cl : (Nat → Int) → Nat → (Nat → Int) → Prop} (hok : mOk m) (hcl : ∀ t m', cl m t m' → few m m') (k : stpR pool cl m p s2 f m') : few m m' := by
  obtain ⟨-, -, -, k⟩ := k
  have k1 := hok.2.2.1
  have k3 := hok.2.2.2.2.1
  rcases k with ⟨-, k1, -, n, -, rfl⟩ | ⟨-, rfl, -⟩ | ⟨-, n, -, -, -, rfl⟩ | ⟨-, ⟨-, -, rfl⟩ | ⟨-, -, k⟩⟩ | ⟨-, n, -, -, ⟨-, -, rfl⟩ | ⟨-, -, -, rfl⟩ | ⟨x, -, -, rfl⟩⟩ | ⟨-, k2, -, rfl⟩ | ⟨-, -, rfl⟩
  · exact ⟨updI_n (by omega), by rw [updI_n (by omega)]; exact Int.le_refl _, fun c hc => updI_n (by omega), fun k a b _ => updI_n (by omega)⟩
  · exact few.rf
  · unfold takenM
    split
    · have r := neL_r pool 7 (p + 1)
      have e : ∀ q, ¬ q = 1 → ¬ q = 6 → (q < 258 + 14 * (m 1).toNat ∨ 272 + 14 * (m 1).toNat ≤ q) → takesM m pool (m 1).toNat s2 (p + 1) (neL pool 7 (p + 1)) (ftF pool n (neL pool 7 (p + 1))).1 (ftF pool n (neL pool 7 (p + 1))).2 q = m q := fun q a b c => takesM_n (by omega) a b c
      exact ⟨e 0 (by omega) (by omega) (by omega), by rw [e 2 (by omega) (by omega) (by omega)]; exact Int.le_refl _, fun c hc => e _ (by omega) (by omega) (by omega), fun k a b _ => e k (by omega) (by omega) (by omega)⟩
    · exact few.rf
  · exact few.rf
  · exact hcl _ _ k
  · exact few.rf
  · exact few.rf
  · have lt := hbL_lt (m := m) (rc := pool) (fr := p + 1) (to := neL pool 7 (p + 1)) (m 1).toNat 0 x
    generalize hbL m pool (p + 1) (neL pool 7 (p + 1)) (m 1).toNat 0 = t at *
    have e : ∀ q s, ¬ q = 6 → ¬ q = 259 + 14 * t.toNat → ¬ q = 260 + 14 * t.toNat → movesM m t.toNat s q = m q := fun q s a b c => by unfold movesM; rw [updI_n c, updI_n a, updI_n b]
    exact ⟨e 0 _ (by omega) (by omega) (by omega), by rw [e 2 _ (by omega) (by omega) (by omega)]; exact Int.le_refl _, fun c hc => e _ _ (by omega) (by omega) (by omega), fun k a b _ => e k _ (by omega) (by omega) (by omega)⟩
  · split
    · have e : (1614 + 72 * (pool (p + 1) - 48)).toNat = 1614 + 72 * (pool (p + 1) - 48).toNat := by omega
      rw [e]
      exact ⟨updI_n (by omega), by rw [updI_n (by omega)]; exact Int.le_refl _, fun c hc => updI_n (by omega), fun k a b d => updI_n (d _)⟩
    · exact few.rf
  · exact few.rf
theorem does_few {m m' pool : Nat → Int} {p : Nat} {s2 f : Int} {cl : (Nat → Int) → Nat → (Nat → Int) → Prop} (hok : mOk m) (hcl : ∀ t m', cl m t m' → few m m') (k : doesR pool cl m p s2 f m') : few m m' := by
  rcases k with k | ⟨-, -, -, -, -, n, j, -, -, -, -, -, ⟨-, k⟩ | ⟨-, -, rfl⟩⟩
  · exact stp_few hok hcl k
  · exact stp_few hok hcl k
  · exact few.rf
theorem psi_few {m m' : Nat → Int} {k : Nat} (h : few m m') (hn : NC m) (hn' : NC m') (hok : mOk m) (hok' : mOk m') : psi k m' ≤ psi k m := by
  have k0 := hok.2.1
  have a := hn.cnt hok.2.2.1.1
  have b := hn'.cnt hok'.2.2.1.1
  have c : cnt (openB m') (m' 0).toNat = cnt (openB m) (m 0).toNat := by
    rw [h.1]
    exact cnt_congr _ (fun q hq => by unfold openB; rw [h.2.2.1 q (by omega)])
  have d := h.2.1
  unfold psi phi
  rw [a, b, c]
  omega
/-- what has happened when a task's step was done -/
def TSP (r : Nat) (pool : Nat → Int) (S : Nat → Option mO) (h0 : mH) (q z1 o' : Nat) (f c : Nat → Int) (g : Nat → Option Nat) (m1 : Nat → Int) (nx : Option Nat) (ps : Int) (k' : Nat) (h' : mH) : Prop :=
  ∃ f' c' C' nm' g', isR h' r (q : Int) (z1 : Int) f' c' C' nm' g' ∧ Same (rBlk r) h0 h' ∧ CR m1 pool S c' C' nm' g' ∧ (z1 = 1 → f' 0 = f 0) ∧
  (∀ j, 180 ≤ j → g' j = updO g (181 + 2 * q) nx j) ∧ (∀ k, 488 ≤ k → (∀ t : Nat, k ≠ 496 + 9 * t) → ¬ k = 494 + 9 * q → c' k = updI c (488 + 9 * q) (c (488 + 9 * q) + 1) k) ∧ c' 3 = c 3 ∧ c' 4 = c 4 ∧ c' (494 + 9 * q) = m1 (1620 + 72 * q + o') ∧ psi k' m1 ≤ ps
section TS
variable {G : mG} {l : Launch} {r : Nat} {pool : Nat → Int} {S : Nat → Option mO} {h0 : mH}
theorem go_tone {k q : Nat} {f c : Nat → Int} {C : Nat → Nat → Int} {nm : Nat → Int64} {g : Nat → Option Nat} {h : mH} (hR : isR h r (q : Int) 1 f c C nm g) (hc : ∀ q, InR (c q)) (hf : f 0 = 200 + (q : Int)) (hkk : k < 1000000) (hq : (q : Int) < c 2) (hq2 : q < 10) {s : Nat} {kd num vl : Int} {y : Int64} {inn nx : Option Nat} (hst : c (489 + 9 * q) = 0) (hg : g (181 + 2 * q) = some s) (hs : hGet h s = some (stO kd num vl y inn nx)) (hsr : ¬ rBlk r s) (hkr : InR kd) (hk : ¬ kd = 46) {z' : Int} {f' c' : Nat → Int} {C' : Nat → Nat → Int} {nm' : Nat → Int64} {g' : Nat → Option Nat} (hc' : ∀ q, InR (c' q)) (hz' : InR z') (hz0' : 0 < z') (P : RUNM G l 6 mX3_perform [.ref r, .ref s, .int (J (c (494 + 9 * q)))] h (fun v h' => v = some (.int (J 0)) ∧ isR h' r (q : Int) z' f' c' C' nm' g' ∧ Same (rBlk r) h h')) :
    GOES G l r k h (fun k' h' => k' = k + 1 ∧ isR h' r (q : Int) z' f' (updI c' (488 + 9 * q) (c' (488 + 9 * q) + 1)) C' nm' (updO g' (181 + 2 * q) nx) ∧ Same (rBlk r) h h') :=
  go_task (k := k) hR ⟨by omega, by omega⟩ hkk hq2 hf ((cr_taskStep (G := G) (l := l) 5 hR hc hq hq2 hst hg hs hsr hkr hk hc' hz' hz0' P).deeper (by decide))
theorem stk_lt {m : Nat → Int} (hs : ScI m) (h60 : m 0 ≤ 60) {t n : Nat} (hk : stkOk m t n) : ∀ j, j + 1 < n → m (1620 + 72 * t) < m (1620 + 72 * t + (j + 1)) := fun j hj => by
  induction j with
  | zero =>
    have a := hk.2.1 (0 + 1) hj
    have b := hk.2.2 0 hj
    have c := ((hs.2.2 (m (1620 + 72 * t + (0 + 1))).toNat (by omega)).2 (by omega)).1
    rw [b] at c
    rw [show 1620 + 72 * t + 0 = 1620 + 72 * t by omega] at c
    omega
  | succ j ih =>
    have ih := ih (by omega)
    have a := hk.2.1 (j + 1 + 1) hj
    have b := hk.2.2 (j + 1) hj
    have c := ((hs.2.2 (m (1620 + 72 * t + (j + 1 + 1))).toNat (by omega)).2 (by omega)).1
    rw [b] at c
    omega
end TS
end mg_a8
section mg_a9
/-! ===== a step of a task without a fault ===== -/
section TS2
variable {G : mG} {l : Launch} {r : Nat} {pool : Nat → Int} {S : Nat → Option mO} {h0 : mH}
theorem go_tstep (hS : ∀ a o, S a = some o → hGet h0 a = some o) (hSr : ∀ a, ¬ S a = none → ¬ rBlk r a) (hPo : poolOk pool) {m m1 : Nat → Int} {B : Int} {q k o : Nat} {f c : Nat → Int} {C : Nat → Nat → Int} {nm : Nat → Int64} {g : Nat → Option Nat} {h : mH} (hM : Mid m pool B) (hT : TkM m pool q) (hq : (q : Int) < m 3) (hrd : m (1610 + 72 * q) = 0)
    (hR : isR h r (q : Int) 1 f c C nm g) (hf : f 0 = 200 + (q : Int)) (hSm : Same (rBlk r) h0 h) (hC : CR m pool S c C nm g) (h488 : c (488 + 9 * q) = m (1615 + 72 * q)) (h493 : c (493 + 9 * q) = m (1608 + 72 * q)) (h494 : c (494 + 9 * q) = m (1620 + 72 * q + o)) (hn : m (1619 + 72 * q) = (o : Int) + 1) (hph : psi k m + 400 ≤ 900000)
    {s hi p e kk o' : Nat} {nx : Option Nat} (hg : g (181 + 2 * q) = some s) (hK : stK S pool (stL S pool kk false 0) true o s nx hi p e o') (he : ¬ dgP (pool e)) (hD : diI pool (clT G l r (q : Int) pool S h0) (shS G l r (q : Int) pool S h0 61) m q p 0 m1) (z1 : Nat) (hz1 : z1 = if pool p = 46 ∧ ¬ nx = none then 0 else 1) :
    GOES G l r k h (TSP r pool S h0 q z1 o' f c g m1 nx (psi k m + 301)) := by
  obtain ⟨hI, hsc, hnc, hns⟩ := id hM
  have hok := hI.1
  have k0 := hok.2.1
  have k1 := hok.2.2.1
  have k2 := hok.2.2.2.1
  have k3 := hok.2.2.2.2.1
  obtain ⟨n0, T, A, K, L, ⟨Z, e0⟩, F0, Gg, hc, hCC⟩ := id hC
  obtain ⟨hDo, ⟨B1, hM1⟩, hT1, hkt⟩ := hD
  have hok1 := hM1.1.1
  obtain ⟨a1, a2, a3, a4, a5, a6, ⟨n, a7, a8⟩, a9, a10⟩ := id (hT.2 q hq).1
  obtain rfl : n = o + 1 := by omega
  have top := a8.2.1 o (by omega)
  have co := cnt_r (openB m) (m 0).toNat
  have cc := hnc.cnt k1.1
  have hkk : k < 1000000 := by unfold psi phi at hph; omega
  have hq10 : q < 10 := by omega
  have hqc : (q : Int) < c 2 := by rw [n0.2.2.1]; exact hq
  have hst : c (489 + 9 * q) = 0 := by rw [(K q hq).1]; exact hrd
  have hSR : SR m := fun a ha => (hsc.2.2 a ha).1
  have hSg : ∀ a o, S a = some o → hGet h a = some o := fun a o ha => (hSm.2.2.2 a (hSr a (by rw [ha]; exact fun q => by cases q))).trans (hS a o ha)
  have hob : ∀ {a kd num vl : _} {y : Int64} {inn nx : Option Nat}, S a = some (stO kd num vl y inn nx) → ¬ rBlk r a := fun ha => hSr _ (by rw [ha]; exact fun q => by cases q)
  -- the world with the step counted
  have cnted : ∀ {m2 : Nat → Int} {c2 : Nat → Int} {C2 : Nat → Nat → Int} {nm2 : Nat → Int64} {g2 : Nat → Option Nat}, mOk m2 → CR m2 pool S c2 C2 nm2 g2 → c2 (488 + 9 * q) = c (488 + 9 * q) → CR m2 pool S (updI c2 (488 + 9 * q) (c2 (488 + 9 * q) + 1)) C2 nm2 (updO g2 (181 + 2 * q) nx) := fun {m2 c2 C2 nm2 g2} x y z => by
    refine y.see x (Int.le_refl _) (fun _ _ => rfl) (fun j hj => updI_n (fun w => ?_)) (fun j => ?_) (fun u _ => updO_n (by omega))
    · subst w
      rcases hj with w | w | w | w | w | ⟨t, w | w⟩ <;> omega
    · obtain ⟨-, -, -, -, -, -, -, -, R⟩ := y
      by_cases w : j = 488 + 9 * q
      · subst w; rw [updI_s, z, h488]; exact ⟨by omega, by omega⟩
      · rw [updI_n w]; exact R.1 j
  have E := hDo
  obtain ⟨-, -, -, n, n60, nn, E⟩ := E
  obtain rfl : n = o + 1 := by omega
  have etop : m (1619 + 72 * q + (o + 1)) = m (1620 + 72 * q + o) := by congr 1; omega
  rw [etop] at E
  rcases hK with ⟨hQ, rfl⟩ | ⟨-, -, hp, -, rfl, num, vl, y, inn, hs⟩ | ⟨-, -, hp, -, ho, num, vl, y, inn, hs⟩
  · -- a step as in a closer
    have hpk : ¬ pool p = 40 ∧ ¬ pool p = 41 := by
      rcases hQ with ⟨-, num, vl, y, inn, -, w⟩ | ⟨-, w, -⟩
      · rcases w with w | w | w | w | w | w | w
        all_goals (have := w.1; constructor <;> omega)
      · constructor <;> omega
    rcases E with ⟨x, -⟩ | ⟨x, -⟩ | ⟨-, -, E⟩
    · exact absurd x hpk.1
    · exact absurd x hpk.2
    have fw : few m m1 := does_few hok (fun t m' x => by
      obtain ⟨⟨-, -, ev⟩, -, x2⟩ := x
      exact ⟨ev.1 0 (Or.inl rfl), by omega, fun c hc => ev.1 _ (by unfold far; omega), fun k a b d => ev.1 k (fat_far (Or.inr (Or.inr (Or.inr (Or.inr (Or.inr ⟨a, b, d⟩))))))⟩) E
    have pf := psi_few (k := k) fw hnc hM1.2.2.1 hok hok1
    have p1 : psi (k + 1) m1 = psi k m1 + 1 := by unfold psi phi; omega
    have keep : m1 (1620 + 72 * q + o') = m (1620 + 72 * q + o') := fw.2.2.2 _ (by omega) (by omega) (fun t w => by omega)
    obtain ⟨kd, num, vl, y, inn, hs, hkr, hk46⟩ : ∃ kd num vl y inn, S s = some (stO kd num vl y inn nx) ∧ InR kd ∧ (kd = 46 ↔ pool p = 46) := by
      rcases hQ with ⟨-, num, vl, y, inn, hs, -⟩ | ⟨-, w, -, -, q, b', y, nx2, hs, -⟩
      · exact ⟨_, _, _, _, _, hs, ⟨by have := hPo p; omega, by have := hPo p; omega⟩, Iff.rfl⟩
      · exact ⟨_, _, _, _, _, hs, ⟨by decide, by decide⟩, by rw [w]⟩
    have hsh := hSg s _ hs
    have hsr := hob hs
    by_cases dot : pool p = 46
    · -- a turn's end
      have kd46 := hk46.mpr dot
      have em : m1 = m := by
        rcases E with E | ⟨w, -⟩
        · obtain ⟨-, -, -, ⟨w, -⟩ | ⟨w, -⟩ | ⟨w, -⟩ | ⟨w, -⟩ | ⟨w, -⟩ | ⟨w, -⟩ | ⟨-, -, w⟩⟩ := E
          all_goals first | exact w | (exfalso; omega)
        · omega
      have P : RUNM G l 6 mX3_perform [.ref r, .ref s, .int (J (c (494 + 9 * q)))] h (fun v h' => v = some (.int (J 0)) ∧ isR h' r (q : Int) 1 f c C nm g ∧ Same (rBlk r) h h') := pf_plain (G := G) (l := l) 6 hsh (by omega) hkr ((pf_nop (G := G) (l := l) 6 hR hc hsh kd46).mono (fun v h' w => by
        obtain ⟨w1, rfl⟩ := w
        exact ⟨w1, hR, Same.refl⟩))
      cases nx with
      | none =>
        rw [if_neg (fun w => w.2 rfl)] at hz1
        subst hz1
        refine (go_task (k := k) hR ⟨by omega, by omega⟩ hkk hq10 hf ((cr_taskLast (G := G) (l := l) 5 hR hc hqc hq10 hst hg hsh hsr kd46 hc ⟨by omega, by omega⟩ (by decide) P).deeper (by decide))).mono (fun k' h' w => ?_)
        obtain ⟨rfl, w1, w2⟩ := w
        refine ⟨f, _, C, nm, _, w1, hSm.trans w2, ?_, fun _ => rfl, fun _ _ => rfl, fun _ _ _ _ => rfl, updI_n (by omega), updI_n (by omega), ?_, by omega⟩
        · rw [em]; exact cnted hok hC rfl
        · rw [updI_n (by omega), keep]; exact h494
      | some s2 =>
        rw [if_pos ⟨dot, fun w => by cases w⟩] at hz1
        subst hz1
        refine (go_task (k := k) hR ⟨by omega, by omega⟩ hkk hq10 hf ((cr_taskDot (G := G) (l := l) 5 hR hc hqc hq10 hst hg hsh hsr kd46 hc ⟨by omega, by omega⟩ (by decide) P).deeper (by decide))).mono (fun k' h' w => ?_)
        obtain ⟨rfl, w1, w2⟩ := w
        refine ⟨f, _, C, nm, _, w1, hSm.trans w2, ?_, fun _ => rfl, fun _ _ => rfl, fun _ _ _ _ => rfl, updI_n (by omega), updI_n (by omega), ?_, by omega⟩
        · rw [em]; exact cnted hok hC rfl
        · rw [updI_n (by omega), keep]; exact h494
    · rw [if_neg (fun w => dot w.1)] at hz1
      subst hz1
      have kd46 : ¬ kd = 46 := fun w => dot (hk46.mp w)
      have Pq := pfm_Q (G := G) (l := l) hPo hR hSg hSr ⟨by decide, by decide⟩ hC hI hSR hQ he (hc (494 + 9 * q)) (by rw [h494]; exact E)
      obtain ⟨v, h1, ⟨rfl, ⟨w, -⟩ | ⟨-, ⟨c', C', nm', g', q1, q2, q3, q4⟩ | ⟨t, q1, q2, q3, q4, q5⟩⟩⟩, Pe⟩ := Pq.ex
      · exact absurd rfl w
      · obtain ⟨-, v2, v3, v4, v5⟩ := q4
        obtain ⟨-, -, -, -, -, -, -, -, R'⟩ := id q3
        refine (go_tone hR hc hf hkk hqc hq10 hst hg hsh hsr hkr kd46 R'.1 (z' := 1) ⟨by decide, by decide⟩ (by decide) (Pe.mono (fun v h' w => by
          obtain ⟨rfl, rfl⟩ := w
          exact ⟨rfl, q1, q2⟩))).mono (fun k' h' w => ?_)
        obtain ⟨rfl, w1, w2⟩ := w
        have e488 := v3 (488 + 9 * q) (by omega) (fun t w => by omega)
        refine ⟨f, _, C', nm', _, w1, hSm.trans w2, cnted hok1 q3 e488, fun _ => rfl, fun j hj => ?_, fun j hj hj2 hj3 => ?_, ?_, ?_, ?_, by omega⟩
        · by_cases w : j = 181 + 2 * q
          · subst w; rw [updO_s, updO_s]
          · rw [updO_n w, updO_n w]; exact v2 j hj
        · by_cases w : j = 488 + 9 * q
          · subst w; rw [updI_s, updI_s, e488]
          · rw [updI_n w, updI_n w]; exact v3 j hj hj2
        · rw [updI_n (by omega)]; exact v4
        · rw [updI_n (by omega)]; exact v5
        · rw [updI_n (by omega), v3 _ (by omega) (fun t w => by omega), keep]; exact h494
      · -- another thing is closed
        have y1 := CR_cng hC hok (Int.le_refl _) (t := t) q1 q2
        obtain ⟨-, -, -, -, -, -, -, -, R'⟩ := id y1
        have uc : ∀ j, ¬ j = 32 + 3 * t → updI c (32 + 3 * t) 2 j = c j := fun j hj => updI_n hj
        have bg : ∀ j, ¬ j = 2 * t + 1 → btG g t j = g j := fun j hj => by unfold btG; exact updO_n hj
        refine (go_tone hR hc hf hkk hqc hq10 hst hg hsh hsr hkr kd46 R'.1 (z' := 1 + 1) ⟨by decide, by decide⟩ (by decide) (Pe.mono (fun v h' w => by
          obtain ⟨rfl, rfl⟩ := w
          exact ⟨rfl, q4, q5⟩))).bind (fun k' h' w => ?_)
        obtain ⟨rfl, w1, w2⟩ := w
        have it := inv_cng hI q1 q2
        have y2 := cnted it.1.1 y1 (uc _ (by omega))
        obtain ⟨⟨-, sm, ev⟩, -, -⟩ := q3
        refine (sm hSR (k + 1) 1 _ _ _ _ _ h' w1 updI_s (hSm.trans w2) y2 (by rw [updO_n (by omega), updO_n (by omega)]; unfold btG; rw [updO_s, updO_n (by omega)]) (by omega) (by unfold psi at hph; unfold phi at hph ⊢; omega)).mono (fun k' h'' q' => ?_)
        obtain ⟨f', c', C', nm', g', x1, x2, x3, x4, x5, x6⟩ := q'
        obtain ⟨v1, v2, v3, v4, v5⟩ := x5
        refine ⟨f', c', C', nm', g', x1, x2, x3, fun _ => ?_, fun j hj => ?_, fun j hj hj2 hj3 => ?_, ?_, ?_, ?_, ?_⟩
        · rw [x4 0 (by omega), updI_n (by decide)]
        · rw [v2 j hj]
          by_cases w : j = 181 + 2 * q
          · subst w; rw [updO_s, updO_s]
          · rw [updO_n w, updO_n w, bg j (by omega)]
        · rw [v3 j hj hj2]
          by_cases w : j = 488 + 9 * q
          · subst w; rw [updI_s, updI_s, uc _ (by omega)]
          · rw [updI_n w, updI_n w, uc j (by omega)]
        · rw [v4, updI_n (by omega), uc 3 (by omega)]
        · rw [v5, updI_n (by omega), uc 4 (by omega)]
        · rw [v3 _ (by omega) (fun t w => by omega), updI_n (by omega), uc _ (by omega), keep]; exact h494
        · have cn1 := hM1.2.2.1.cnt hok1.2.2.1.1
          have oo : cnt (openB m1) (m1 0).toNat = cnt (openB m) (m 0).toNat := by
            rw [fw.1]
            exact cnt_congr _ (fun j hj => by unfold openB; rw [fw.2.2.1 j (by omega)])
          have m2 := fw.2.1
          unfold psi
          rw [oo]
          unfold phi at x6 ⊢
          rw [cn1, cc] at x6 ⊢
          omega
  · -- a scope opens
    rw [if_neg (fun w => by have := w.1; omega)] at hz1
    subst hz1
    rcases E with ⟨-, ⟨-, w, -⟩ | ⟨-, -, w, -⟩ | ⟨x1, x2, -, x3⟩⟩ | ⟨w, -⟩ | ⟨w, -⟩
    · exact absurd w (by decide)
    · exact absurd w (by decide)
    · have hsh := hSg s _ hs
      have hsr := hob hs
      have eN : m 0 = (((m 0).toNat : Nat) : Int) := by omega
      have eu : m (1620 + 72 * q + o) = (((m (1620 + 72 * q + o)).toNat : Nat) : Int) := by omega
      have hp0 : m (18 + 4 * (m (1620 + 72 * q + o)).toNat) = 0 := by
        rw [eu] at x2
        exact (openP_nat.mp x2).2
      have Pq : RUNM G l 6 mX3_perform [.ref r, .ref s, .int (J (c (494 + 9 * q)))] h (fun v h' => (60 ≤ (m 0).toNat ∧ v = some (.int (J 107)) ∧ h' = h) ∨ ((m 0).toNat < 60 ∧ ¬ opP c (c (494 + 9 * q)) ∧ v = some (.int (J 101)) ∧ h' = h) ∨ ((m 0).toNat < 60 ∧ opP c (c (494 + 9 * q)) ∧ v = some (.int (J 0)) ∧ isR h' r (q : Int) 1 f (oiC c (m 0).toNat Z q) (updC C 2 (updI (C 2) Z (100 + (((m 0).toNat : Nat) : Int)))) nm g ∧ Same (rBlk r) h h')) :=
        pf_plain (G := G) (l := l) 6 hsh (by decide) ⟨by decide, by decide⟩ (pf_open (G := G) (l := l) 3 hR hc hsh rfl (by rw [n0.2.1]; exact eN) (by omega) e0.1 (by have := e0.2.1; omega) rfl hqc hq10)
      obtain ⟨v, h1, w, Pe⟩ := Pq.ex
      rcases w with ⟨w, -⟩ | ⟨-, w, -⟩ | ⟨-, -, rfl, q1, q2⟩
      · omega
      · exact absurd ((op_iff n0.2.1 k0.2 A hSR).mpr (by rw [h494]; exact x2)) w
      · have y := CR_opens hC hok (N := (m 0).toNat) (p := (m (1620 + 72 * q + o)).toNat) (t := (q : Int)) eN (by omega) (by omega) (by omega) ⟨by omega, by omega⟩ e0.1
        rw [← eu] at y
        obtain ⟨o0, o1, o2, o3, o4, o6, oe⟩ := opensM_at (m := m) (C := (m 0).toNat) (p := m (1620 + 72 * q + o)) (t := (q : Int))
        obtain ⟨-, -, -, -, -, -, -, -, Ry⟩ := id y
        have cO : ∀ j, ¬ j = 494 + 9 * q → oiC c (m 0).toNat Z q j = adE (asC c (m 0).toNat (m (1620 + 72 * q + o)) (q : Int)) Z j := fun j hj => by unfold oiC; rw [h494, updI_n hj]
        have cH : ∀ j, (488 ≤ j ∨ j = 3 ∨ j = 4) → ¬ j = 494 + 9 * q → oiC c (m 0).toNat Z q j = c j := fun j h1 h2 => by
          rw [cO j h2]; unfold adE asC
          rw [updI_n (by omega), updI_n (by omega), updI_n (by omega), updI_n (by omega), updI_n (by omega)]
        have mH : ∀ j, ¬ j = 1619 + 72 * q → ¬ j = 1620 + 72 * q + (o + 1) → m1 j = opensM m (m 0).toNat (m (1620 + 72 * q + o)) q j := fun j a b => by rw [x3, updI_n a, updI_n b]
        have mo : mOk (opensM m (m 0).toNat (m (1620 + 72 * q + o)) q) := by
          refine ⟨fun j => ?_, ?_⟩
          · by_cases w : j = 1619 + 72 * q ∨ j = 1620 + 72 * q + (o + 1)
            · rw [oe j (by omega) (by omega) (by omega)]; exact hok.1 j
            · rw [← mH j (by omega) (by omega)]; exact hok1.1 j
          · rw [o0, oe 1 (by omega) (by omega) (by omega), oe 2 (by omega) (by omega) (by omega), oe 3 (by omega) (by omega) (by omega), oe 4 (by omega) (by omega) (by omega), oe 5 (by omega) (by omega) (by omega)]
            exact ⟨⟨by omega, by omega⟩, hok.2.2.1, hok.2.2.2.1, hok.2.2.2.2.1, hok.2.2.2.2.2.1, hok.2.2.2.2.2.2.1, fun u hu => by rw [oe _ (by omega) (by omega) (by omega)]; exact hok.2.2.2.2.2.2.2 u hu⟩
        have yo : CR m1 pool S (oiC c (m 0).toNat Z q) (updC C 2 (updI (C 2) Z (100 + (((m 0).toNat : Nat) : Int)))) nm g := by
          refine y.see mo (Int.le_refl _) (fun j hj => ?_) (fun j hj => ?_) (fun j => ?_) (fun _ _ => rfl)
          · refine mH j (fun w => ?_) (fun w => ?_)
            · subst w
              rcases hj with w | w | w | ⟨t, w | w⟩ <;> omega
            · subst w
              rcases hj with w | w | w | ⟨t, w | w⟩ <;> omega
          · refine cO j (fun w => ?_)
            subst w
            rcases hj with w | w | w | w | w | ⟨t, w | w⟩ <;> omega
          · by_cases w : j = 494 + 9 * q
            · subst w; unfold oiC; rw [updI_s]; exact ⟨by omega, by omega⟩
            · rw [cO j w]; exact Ry.1 j
        obtain ⟨-, -, -, -, -, -, -, -, R'⟩ := id yo
        refine (go_tone hR hc hf hkk hqc hq10 hst hg hsh hsr ⟨by decide, by decide⟩ (by decide) R'.1 (z' := 1) ⟨by decide, by decide⟩ (by decide) (Pe.mono (fun v h' w => by
          obtain ⟨rfl, rfl⟩ := w
          exact ⟨rfl, q1, q2⟩))).mono (fun k' h' w => ?_)
        obtain ⟨rfl, w1, w2⟩ := w
        have e488 := cH (488 + 9 * q) (by omega) (by omega)
        refine ⟨f, _, _, nm, _, w1, hSm.trans w2, cnted hok1 yo e488, fun _ => rfl, fun j hj => rfl, fun j hj hj2 hj3 => ?_, ?_, ?_, ?_, ?_⟩
        · by_cases w : j = 488 + 9 * q
          · subst w; rw [updI_s, updI_s, e488]
          · rw [updI_n w, updI_n w]; exact cH j (Or.inl hj) hj3
        · rw [updI_n (by omega)]; exact cH 3 (by omega) (by omega)
        · rw [updI_n (by omega)]; exact cH 4 (by omega) (by omega)
        · rw [updI_n (by omega), x3, updI_n (by omega), updI_s]; unfold oiC; rw [updI_s]; omega
        · have cn1 := hM1.2.2.1.cnt hok1.2.2.1.1
          have M0 : m1 0 = m 0 + 1 := by rw [mH 0 (by omega) (by omega), o0]; omega
          have M2 : m1 2 = m 2 := by rw [mH 2 (by omega) (by omega), oe 2 (by omega) (by omega) (by omega)]
          have oo : cnt (openB m1) (m 0).toNat = cnt (openB m) (m 0).toNat := cnt_congr _ (fun j hj => by unfold openB; rw [mH _ (by omega) (by omega), oe _ (by omega) (by omega) (by omega)])
          have o2 : cnt (openB m1) ((m 0).toNat + 1) ≤ cnt (openB m1) (m 0).toNat + 1 := by rw [cnt_S]; split <;> omega
          unfold psi phi
          rw [cn1, cc, M0, M2, show (m 0 + 1).toNat = (m 0).toNat + 1 by omega]
          omega
    · omega
    · exact absurd hp w
  · -- a scope is shut
    rw [if_neg (fun w => by have := w.1; omega)] at hz1
    subst hz1
    rcases E with ⟨w, -⟩ | ⟨-, -, E⟩ | ⟨-, w, -⟩
    · omega
    · subst ho
      have hsh := hSg s _ hs
      have hsr := hob hs
      have lt := stk_lt hsc k0.2 a8 o' (by omega)
      have par := a8.2.2 o' (by omega)
      obtain ⟨u, eu⟩ : ∃ u : Nat, m (1620 + 72 * q + (o' + 1)) = u := ⟨(m (1620 + 72 * q + (o' + 1))).toNat, by omega⟩
      rw [eu] at lt E par h494 top
      rw [show ((u : Int)).toNat = u by omega] at par
      have hu0 : (u : Int) < m 0 := top.2
      obtain ⟨A1, A2, -⟩ := A u hu0
      rw [par] at A2
      have sr := hSR u hu0
      have um : ∀ j, ¬ j = 1619 + 72 * q → updI m (1619 + 72 * q) (((o' + 1 + 1 : Nat) : Int) - 1) j = m j := fun j w => updI_n w
      have hM2 : Mid (updI m (1619 + 72 * q) (((o' + 1 + 1 : Nat) : Int) - 1)) pool B := hM.out ⟨by omega, by omega⟩ (by omega)
      have y2 : CR (updI m (1619 + 72 * q) (((o' + 1 + 1 : Nat) : Int) - 1)) pool S c C nm g := hC.see hok (Int.le_refl _) (fun j hj => um j (fun w => by
        subst w
        rcases hj with w | w | w | ⟨t, w | w⟩ <;> omega)) (fun _ _ => rfl) hc (fun _ _ => rfl)
      have p2 : psi (k + 1) (updI m (1619 + 72 * q) (((o' + 1 + 1 : Nat) : Int) - 1)) = psi k m + 1 := by
        have c1 : cnt (cngB (updI m (1619 + 72 * q) (((o' + 1 + 1 : Nat) : Int) - 1))) (m 1).toNat = cnt (cngB m) (m 1).toNat := cnt_congr _ (fun j hj => by
          show decide (updI m (1619 + 72 * q) (((o' + 1 + 1 : Nat) : Int) - 1) (258 + 14 * j) = 1) = decide (m (258 + 14 * j) = 1)
          rw [um _ (by omega)])
        have c2 : cnt (openB (updI m (1619 + 72 * q) (((o' + 1 + 1 : Nat) : Int) - 1))) (m 0).toNat = cnt (openB m) (m 0).toNat := cnt_congr _ (fun j hj => by unfold openB; rw [um _ (by omega)])
        unfold psi phi
        rw [um 0 (by omega), um 1 (by omega), um 2 (by omega), c1, c2]
        omega
      have Pq : RUNM G l 6 mX3_perform [.ref r, .ref s, .int (J (c (494 + 9 * q)))] h _ :=
        pf_plain (G := G) (l := l) 6 hsh (by decide) ⟨by decide, by decide⟩ (pf_shut (G := G) (l := l) 2 hR hc hsh rfl ⟨by decide, by decide⟩ rfl hqc hq10 h494 (by rw [n0.2.1]; exact hu0) (by omega) (by rw [h494, h493, a6]; omega))
      obtain ⟨v, h1, ⟨rfl, w, q2⟩, Pe⟩ := Pq.ex
      rcases w with ⟨w, q1⟩ | ⟨w, q1⟩
      · have ho : m (18 + 4 * u) = 0 := (swT_0 sr).mp (by rw [← A1]; exact w)
        have ho2 : updI m (1619 + 72 * q) (((o' + 1 + 1 : Nat) : Int) - 1) (18 + 4 * u) = 0 := by rw [um _ (by omega)]; exact ho
        have y3 := CR_scb y2 hM2.1.1 (Int.le_refl _) (a := u) (by rw [um 0 (by omega)]; exact hu0) ho2
        have ok3 := (hM2.1.scope (s := u) (v := 1) (by omega) (by decide)).1
        obtain ⟨-, -, -, -, -, -, -, -, R3⟩ := id y3
        have y4 : CR (updI (updI m (1619 + 72 * q) (((o' + 1 + 1 : Nat) : Int) - 1)) (18 + 4 * u) 1) pool S (updI (updI c (304 + 3 * u) 2) (494 + 9 * q) (c (305 + 3 * u))) C nm g := y3.see ok3 (Int.le_refl _) (fun _ _ => rfl) (fun j hj => updI_n (fun w => by
          subst w
          rcases hj with w | w | w | w | w | ⟨t, w | w⟩ <;> omega)) (fun j => by
          by_cases w : j = 494 + 9 * q
          · subst w; rw [updI_s]; exact hc _
          · rw [updI_n w]; exact R3.1 j) (fun _ _ => rfl)
        obtain ⟨-, -, -, -, -, -, -, -, R'⟩ := id y4
        have cH : ∀ j, (488 ≤ j ∨ j = 3 ∨ j = 4) → ¬ j = 494 + 9 * q → updI (updI c (304 + 3 * u) 2) (494 + 9 * q) (c (305 + 3 * u)) j = c j := fun j h1 h2 => by rw [updI_n h2, updI_n (by omega)]
        have e488 := cH (488 + 9 * q) (by omega) (by omega)
        refine (go_tone hR hc hf hkk hqc hq10 hst hg hsh hsr ⟨by decide, by decide⟩ (by decide) R'.1 (z' := 1 + 1) ⟨by decide, by decide⟩ (by decide) (Pe.mono (fun v h' w => by
          obtain ⟨rfl, rfl⟩ := w
          exact ⟨rfl, q1, q2⟩))).bind (fun k' h' w => ?_)
        obtain ⟨rfl, w1, w2⟩ := w
        have y5 := cnted ok3 y4 e488
        obtain ⟨-, sm, -, -, es⟩ := E
        refine (sm u rfl (by rw [um 0 (by omega)]; exact hu0) ho2 (k + 1) 1 _ _ _ _ _ h' w1 updI_s (hSm.trans w2) y5 (by omega) (by rw [p2]; omega)).mono (fun k' h'' q' => ?_)
        obtain ⟨f', c', C', nm', g', x1, x2, x3, x4, x5, x6⟩ := q'
        obtain ⟨v1, v2, v3, v4⟩ := x5
        refine ⟨f', c', C', nm', g', x1, x2, x3, fun _ => ?_, fun j hj => ?_, fun j hj hj2 hj3 => ?_, ?_, ?_, ?_, ?_⟩
        · rw [x4 0 (by omega), updI_n (by decide)]
        · exact v1 j hj
        · rw [v2 j hj hj2]
          by_cases w : j = 488 + 9 * q
          · subst w; rw [updI_s, updI_s, e488]
          · rw [updI_n w, updI_n w]; exact cH j (Or.inl hj) hj3
        · rw [v3, updI_n (by omega)]; exact cH 3 (by omega) (by omega)
        · rw [v4, updI_n (by omega)]; exact cH 4 (by omega) (by omega)
        · rw [v2 _ (by omega) (fun t w => by omega), updI_n (by omega), updI_s, A2, es.1 _ (Or.inr (Or.inr (Or.inr (Or.inr (Or.inr ⟨by omega, by omega, fun t w => by omega⟩))))), um _ (by omega)]
        · rw [p2, if_neg (by omega)] at x6
          omega
      · have ho : ¬ m (18 + 4 * u) = 0 := fun z => w (by rw [A1]; exact (swT_0 sr).mpr z)
        have em : m1 = updI m (1619 + 72 * q) (((o' + 1 + 1 : Nat) : Int) - 1) := by
          obtain ⟨⟨-, -, ⟨-, x⟩ | ⟨x, -⟩⟩, -⟩ := E
          · exact x
          · exact absurd (by have := (openP_nat.mp x).2; rw [um _ (by omega)] at this; exact this) ho
        have y4 : CR m1 pool S (updI c (494 + 9 * q) (c (305 + 3 * u))) C nm g := by
          rw [em]
          refine y2.see hM2.1.1 (Int.le_refl _) (fun _ _ => rfl) (fun j hj => updI_n (fun w => ?_)) (fun j => ?_) (fun _ _ => rfl)
          · subst w
            rcases hj with w | w | w | w | w | ⟨t, w | w⟩ <;> omega
          · by_cases w : j = 494 + 9 * q
            · subst w; rw [updI_s]; exact hc _
            · rw [updI_n w]; exact hc j
        obtain ⟨-, -, -, -, -, -, -, -, R'⟩ := id y4
        have e488 : updI c (494 + 9 * q) (c (305 + 3 * u)) (488 + 9 * q) = c (488 + 9 * q) := updI_n (by omega)
        refine (go_tone hR hc hf hkk hqc hq10 hst hg hsh hsr ⟨by decide, by decide⟩ (by decide) R'.1 (z' := 1) ⟨by decide, by decide⟩ (by decide) (Pe.mono (fun v h' w => by
          obtain ⟨rfl, rfl⟩ := w
          exact ⟨rfl, q1, q2⟩))).mono (fun k' h' w => ?_)
        obtain ⟨rfl, w1, w2⟩ := w
        refine ⟨f, _, C, nm, _, w1, hSm.trans w2, cnted hok1 y4 e488, fun _ => rfl, fun j hj => rfl, fun j hj hj2 hj3 => ?_, ?_, ?_, ?_, ?_⟩
        · by_cases w : j = 488 + 9 * q
          · subst w; rw [updI_s, updI_s, e488]
          · rw [updI_n w, updI_n w, updI_n hj3]
        · rw [updI_n (by omega), updI_n (by omega)]
        · rw [updI_n (by omega), updI_n (by omega)]
        · rw [updI_n (by omega), updI_s, A2, em, um _ (by omega)]
        · rw [em, p2]; omega
    · exact absurd hp w
end TS2
end mg_a9
section mg_b0
/-! ===== a task's fault; its scopes at its end ===== -/
section TF
variable {G : mG} {l : Launch} {r : Nat} {b : Int} {pool : Nat → Int} {S : Nat → Option mO} {h0 : mH}
/-- what a step of a task leaves of the tasks -/
theorem doesIn_out {m m1 : Nat → Int} {B : Int} {q p o e o' kk : Nat} {fl : Int} (hM : Mid m pool B) (hT : TkM m pool q) (hq : (q : Int) < m 3) (hn : m (1619 + 72 * q) = (o : Int) + 1) (hK : stepK pool (stsC pool kk) o p e o') (hD : doesInR pool (clT G l r b pool S h0) (shS G l r b pool S h0 61) m q p fl m1) :
    (∀ j, 1608 ≤ j → j < 2328 → (∀ t : Nat, j ≠ 1614 + 72 * t) → (j < 1619 + 72 * q ∨ 1680 + 72 * q ≤ j) → m1 j = m j) ∧ (fl = 0 → m1 (1619 + 72 * q) = (o' : Int) + 1) := by
  have hok := hM.1.1
  have k0 := hok.2.1
  have k1 := hok.2.2.1
  have k3 := hok.2.2.2.2.1
  obtain ⟨a1, a2, a3, a4, a5, a6, ⟨n, a7, a8⟩, a9, a10⟩ := id (hT.2 q hq).1
  obtain rfl : n = o + 1 := by omega
  have top := a8.2.1 o (by omega)
  obtain ⟨-, -, -, n, n60, nn, E⟩ := hD
  obtain rfl : n = o + 1 := by omega
  rcases E with ⟨x, E⟩ | ⟨x, x2, E⟩ | ⟨x, y, E⟩
  · rcases E with ⟨-, rfl, rfl⟩ | ⟨-, -, rfl, rfl⟩ | ⟨x1, x2, -, x3⟩
    · exact ⟨fun _ _ _ _ _ => rfl, fun w => absurd w (by decide)⟩
    · exact ⟨fun _ _ _ _ _ => rfl, fun w => absurd w (by decide)⟩
    · obtain ⟨o0, o1, o2, o3, o4, o6, oe⟩ := opensM_at (m := m) (C := (m 0).toNat) (p := m (1619 + 72 * q + (o + 1))) (t := (q : Int))
      refine ⟨fun j h1 h2 h3 h4 => ?_, fun _ => ?_⟩
      · rw [x3, updI_n (by omega), updI_n (by omega), oe j (by omega) (by omega) (by omega)]
      · rw [x3, updI_s]
        rcases hK with ⟨z, -⟩ | ⟨-, -, rfl⟩ | ⟨z, -⟩
        · exfalso
          rcases z with (z | z | z | z | z | z | z) | z
          all_goals (have := z.1; omega)
        · rfl
        · omega
  · obtain ⟨-, -, -, -, es⟩ := E
    have fa : ∀ j, 1608 ≤ j → j < 2328 → (∀ t : Nat, j ≠ 1614 + 72 * t) → m1 j = updI m (1619 + 72 * q) (((o + 1 : Nat) : Int) - 1) j := fun j a b d => es.1 j (Or.inr (Or.inr (Or.inr (Or.inr (Or.inr ⟨a, b, d⟩)))))
    refine ⟨fun j h1 h2 h3 h4 => ?_, fun _ => ?_⟩
    · rw [fa j h1 h2 h3, updI_n (by omega)]
    · rw [fa _ (by omega) (by omega) (fun t w => by omega), updI_s]
      rcases hK with ⟨z, -⟩ | ⟨z, -, rfl⟩ | ⟨-, -, z⟩
      · exfalso
        rcases z with (z | z | z | z | z | z | z) | z
        all_goals (have := z.1; omega)
      · omega
      · omega
  · have fw : few m m1 := does_few hok (fun t m' x => by
      obtain ⟨⟨-, -, ev⟩, -, x2⟩ := x
      exact ⟨ev.1 0 (Or.inl rfl), by omega, fun c hc => ev.1 _ (by unfold far; omega), fun k a b d => ev.1 k (fat_far (Or.inr (Or.inr (Or.inr (Or.inr (Or.inr ⟨a, b, d⟩))))))⟩) E
    refine ⟨fun j h1 h2 h3 h4 => fw.2.2.2 j h1 h2 h3, fun _ => ?_⟩
    rw [fw.2.2.2 _ (by omega) (by omega) (fun t w => by omega), hn]
    rcases hK with ⟨-, rfl⟩ | ⟨z, -⟩ | ⟨z, -⟩
    · rfl
    · exact absurd z x
    · exact absurd z y
theorem go_tfault (hS : ∀ a o, S a = some o → hGet h0 a = some o) (hSr : ∀ a, ¬ S a = none → ¬ rBlk r a) (hPo : poolOk pool) {m m1 : Nat → Int} {B : Int} {q k o : Nat} {f c : Nat → Int} {C : Nat → Nat → Int} {nm : Nat → Int64} {g : Nat → Option Nat} {h : mH} (hM : Mid m pool B) (hT : TkM m pool q) (hq : (q : Int) < m 3) (hrd : m (1610 + 72 * q) = 0)
    (hR : isR h r (q : Int) 1 f c C nm g) (hf : f 0 = 200 + (q : Int)) (hSm : Same (rBlk r) h0 h) (hC : CR m pool S c C nm g) (h494 : c (494 + 9 * q) = m (1620 + 72 * q + o)) (hn : m (1619 + 72 * q) = (o : Int) + 1) (hph : psi k m + 400 ≤ 900000)
    {s hi p e kk o' : Nat} {nx : Option Nat} (hg : g (181 + 2 * q) = some s) (hK : stK S pool (stL S pool kk false 0) true o s nx hi p e o') (he : ¬ dgP (pool e)) {fl : Int} (hfr : InR fl) (hfl : ¬ fl = 0) (hD : doesInR pool (clT G l r b pool S h0) (shS G l r b pool S h0 61) m q p fl m1) :
    m1 = m ∧ GOES G l r k h (fun k' h' => k' = k + 1 ∧ isR h' r (q : Int) 1 f (updI (updI c (495 + 9 * q) fl) (489 + 9 * q) 2) C nm g ∧ Same (rBlk r) h h') := by
  obtain ⟨hI, hsc, hnc, hns⟩ := id hM
  have hok := hI.1
  have k0 := hok.2.1
  have k1 := hok.2.2.1
  have k2 := hok.2.2.2.1
  have k3 := hok.2.2.2.2.1
  obtain ⟨n0, T, A, K, L, ⟨Z, e0⟩, F0, Gg, hc, hCC⟩ := id hC
  obtain ⟨a1, a2, a3, a4, a5, a6, ⟨n, a7, a8⟩, a9, a10⟩ := id (hT.2 q hq).1
  obtain rfl : n = o + 1 := by omega
  have top := a8.2.1 o (by omega)
  have co := cnt_r (openB m) (m 0).toNat
  have cc := hnc.cnt k1.1
  have hkk : k < 1000000 := by unfold psi phi at hph; omega
  have hq10 : q < 10 := by omega
  have hqc : (q : Int) < c 2 := by rw [n0.2.2.1]; exact hq
  have hst : c (489 + 9 * q) = 0 := by rw [(K q hq).1]; exact hrd
  have hSR : SR m := fun a ha => (hsc.2.2 a ha).1
  have hSg : ∀ a o, S a = some o → hGet h a = some o := fun a o ha => (hSm.2.2.2 a (hSr a (by rw [ha]; exact fun q => by cases q))).trans (hS a o ha)
  have hob : ∀ {a kd num vl : _} {y : Int64} {inn nx : Option Nat}, S a = some (stO kd num vl y inn nx) → ¬ rBlk r a := fun ha => hSr _ (by rw [ha]; exact fun q => by cases q)
  obtain ⟨-, -, -, n, n60, nn, E⟩ := hD
  obtain rfl : n = o + 1 := by omega
  have etop : m (1619 + 72 * q + (o + 1)) = m (1620 + 72 * q + o) := by congr 1; omega
  rw [etop] at E
  rcases hK with ⟨hQ, rfl⟩ | ⟨-, -, hp, -, rfl, num, vl, y, inn, hs⟩ | ⟨-, -, hp, -, ho, num, vl, y, inn, hs⟩
  · have hpk : ¬ pool p = 40 ∧ ¬ pool p = 41 := by
      rcases hQ with ⟨-, num, vl, y, inn, -, w⟩ | ⟨-, w, -⟩
      · rcases w with w | w | w | w | w | w | w
        all_goals (have := w.1; constructor <;> omega)
      · constructor <;> omega
    rcases E with ⟨x, -⟩ | ⟨x, -⟩ | ⟨-, -, E⟩
    · exact absurd x hpk.1
    · exact absurd x hpk.2
    have em := pf_same hfl E
    obtain ⟨kd, num, vl, y, inn, hs⟩ : ∃ kd num vl y inn, S s = some (stO kd num vl y inn nx) := by
      rcases hQ with ⟨-, num, vl, y, inn, hs, -⟩ | ⟨-, w, -, -, q, b', y, nx2, hs, -⟩
      · exact ⟨_, _, _, _, _, hs⟩
      · exact ⟨_, _, _, _, _, hs⟩
    have Pq := pfm_Q (G := G) (l := l) hPo hR hSg hSr ⟨by decide, by decide⟩ hC hI hSR hQ he (hc (494 + 9 * q)) (by rw [h494]; exact E)
    refine ⟨em, go_task (k := k) hR ⟨by omega, by omega⟩ hkk hq10 hf ((cr_taskFault (G := G) (l := l) 5 hR hc hqc hq10 hst hg (hSg s _ hs) (hob hs) hfr hfl (Pq.mono (fun v h' w => ?_))).deeper (by decide))⟩
    obtain ⟨w1, ⟨-, -, w2⟩ | ⟨w2, -⟩⟩ := w
    · exact ⟨w1, w2⟩
    · exact absurd w2 hfl
  · rcases E with ⟨-, E⟩ | ⟨w, -⟩ | ⟨w, -⟩
    · have hsh := hSg s _ hs
      have hsr := hob hs
      have eN : m 0 = (((m 0).toNat : Nat) : Int) := by omega
      have Pq : RUNM G l 6 mX3_perform [.ref r, .ref s, .int (J (c (494 + 9 * q)))] h (fun v h' => (60 ≤ (m 0).toNat ∧ v = some (.int (J 107)) ∧ h' = h) ∨ ((m 0).toNat < 60 ∧ ¬ opP c (c (494 + 9 * q)) ∧ v = some (.int (J 101)) ∧ h' = h) ∨ ((m 0).toNat < 60 ∧ opP c (c (494 + 9 * q)) ∧ v = some (.int (J 0)) ∧ isR h' r (q : Int) 1 f (oiC c (m 0).toNat Z q) (updC C 2 (updI (C 2) Z (100 + (((m 0).toNat : Nat) : Int)))) nm g ∧ Same (rBlk r) h h')) :=
        pf_plain (G := G) (l := l) 6 hsh (by decide) ⟨by decide, by decide⟩ (pf_open (G := G) (l := l) 3 hR hc hsh rfl (by rw [n0.2.1]; exact eN) (by omega) e0.1 (by have := e0.2.1; omega) rfl hqc hq10)
      have iff := op_iff n0.2.1 k0.2 A hSR (i := c (494 + 9 * q))
      rw [h494] at iff
      have em : m1 = m := by
        rcases E with ⟨-, -, w⟩ | ⟨-, -, -, w⟩ | ⟨-, -, w, -⟩
        · exact w
        · exact w
        · exact absurd w hfl
      refine ⟨em, go_task (k := k) hR ⟨by omega, by omega⟩ hkk hq10 hf ((cr_taskFault (G := G) (l := l) 5 hR hc hqc hq10 hst hg hsh hsr hfr hfl (Pq.mono (fun v h' w => ?_))).deeper (by decide))⟩
      rw [h494] at w
      rcases E with ⟨x1, rfl, -⟩ | ⟨x1, x2, rfl, -⟩ | ⟨-, -, x, -⟩
      · rcases w with ⟨-, w⟩ | ⟨w, -⟩ | ⟨w, -⟩
        · exact w
        · omega
        · omega
      · rcases w with ⟨w, -⟩ | ⟨-, -, w⟩ | ⟨-, w, -⟩
        · omega
        · exact w
        · exact absurd (iff.mp w) x2
      · exact absurd x hfl
    · omega
    · exact absurd hp w
  · rcases E with ⟨w, -⟩ | ⟨-, w, -⟩ | ⟨-, w, -⟩
    · omega
    · exact absurd w hfl
    · exact absurd hp w
/-- the scope where a task is, when the task is over, comes to its end -/
theorem over_top {m m1 : Nat → Int} {B : Int} {q k u : Nat} {f c : Nat → Int} {C : Nat → Nat → Int} {nm : Nat → Int64} {g : Nat → Option Nat} {h : mH} (hM : Mid m pool B) (hq : (q : Int) < m 3) (hst : ¬ m (1610 + 72 * q) = 0)
    (hR : isR h r b 1 f c C nm g) (hf : f 0 = 200 + (q : Int)) (hSm : Same (rBlk r) h0 h) (hC : CR m pool S c C nm g) (h494 : c (494 + 9 * q) = (u : Int)) (hu1 : 1 ≤ u) (hu : (u : Int) < m 0) (hph : psi k m + 400 ≤ 900000) (hD : shS G l r b pool S h0 61 m (u : Int) m1) :
    GOES G l r k h (fun k' h' => ∃ f' c' C' nm' g', isR h' r b 1 f' c' C' nm' g' ∧ f' 0 = 200 + (q : Int) ∧ Same (rBlk r) h0 h' ∧ CR m1 pool S c' C' nm' g' ∧ KPk c c' g g' ∧ psi k' m1 ≤ psi k m) ∧ Mid m1 pool (max B (Classical.choose hD.2.2.1)) ∧ ¬ m1 (18 + 4 * u) = 0 ∧ Es m m1 := by
  obtain ⟨hI, hsc, hnc, hns⟩ := id hM
  have hok := hI.1
  have k0 := hok.2.1
  have k1 := hok.2.2.1
  have k2 := hok.2.2.2.1
  have k3 := hok.2.2.2.2.1
  obtain ⟨n0, T, A, K, L, ⟨Z, e0⟩, F0, Gg, hc, hCC⟩ := id hC
  have co := cnt_r (openB m) (m 0).toNat
  have cc := hnc.cnt k1.1
  have hkk : k < 1000000 := by unfold psi phi at hph; omega
  have hq10 : q < 10 := by omega
  have hqc : (q : Int) < c 2 := by rw [n0.2.2.1]; exact hq
  have hstc : ¬ c (489 + 9 * q) = 0 := by rw [(K q hq).1]; exact hst
  obtain ⟨A1, A2, -⟩ := A u hu
  have sr := (hsc.2.2 u hu).1
  have hB' := Classical.choose_spec hD.2.2.1
  obtain ⟨hS1, sm, -, sci, es⟩ := id hD
  have md : Mid m1 pool (max B (Classical.choose hD.2.2.1)) := ⟨hB'.up (Int.le_max_right _ _), sci, es.2.2.2.1 hnc, es.ns hns k0.2⟩
  by_cases ho : m (18 + 4 * u) = 0
  · have y := CR_scb hC hok (Int.le_refl _) hu ho
    have P := cr_scopesOpen (G := G) (l := l) 7 hR hc ⟨by decide, by decide⟩ hq10 h494 (by rw [n0.2.1]; exact hu) (by omega) (by rw [A1]; exact (swT_0 sr).mpr ho)
    refine ⟨(go_task (k := k) hR ⟨by omega, by omega⟩ hkk hq10 hf ((cr_taskOver (G := G) (l := l) 9 hR hc hqc hq10 hstc P).deeper (by decide))).bind (fun k' h' w => ?_), md, ?_, es⟩
    · obtain ⟨rfl, w1, w2⟩ := w
      have pk : psi (k + 1) m = psi k m + 1 := by unfold psi phi; omega
      refine (sm u rfl hu ho (k + 1) 1 _ _ _ _ _ h' w1 updI_s (hSm.trans w2) y (by omega) (by omega)).mono (fun k' h'' q' => ?_)
      obtain ⟨f', c', C', nm', g', x1, x2, x3, x4, x5, x6⟩ := q'
      obtain ⟨v1, v2, v3, v4⟩ := x5
      have uc : ∀ j, ¬ j = 304 + 3 * u → updI c (304 + 3 * u) 2 j = c j := fun j hj => updI_n hj
      rw [if_neg (by omega)] at x6
      refine ⟨f', c', C', nm', g', x1, ?_, x2, x3, ⟨v1, fun j a d => ?_, ?_, ?_⟩, by omega⟩
      · rw [x4 0 (by omega), updI_n (by decide)]; exact hf
      · rw [v2 j a d]; exact uc j (by omega)
      · rw [v3]; exact uc 3 (by omega)
      · rw [v4]; exact uc 4 (by omega)
    · obtain ⟨-, -, ⟨x, -⟩ | ⟨-, kf, m2, -, x⟩⟩ := hS1
      · exact absurd (openP_nat.mpr ⟨hu, ho⟩) x
      · rw [x, show (18 + 4 * (u : Int)).toNat = 18 + 4 * u by omega, updI_s, if_neg (by omega)]; decide
  · have em : m1 = m := by
      obtain ⟨-, -, ⟨-, x⟩ | ⟨x, -⟩⟩ := hS1
      · exact x
      · exact absurd (openP_nat.mp x).2 ho
    refine ⟨GOES.rf ⟨f, c, C, nm, g, hR, hf, hSm, by rw [em]; exact hC, KPk.rf, by rw [em]; exact Int.le_refl _⟩, md, by rw [em]; exact ho, es⟩
end TF
end mg_b0
section mg_b1
/-! ===== the end of a task, on both sides ===== -/
/-- what is left of the world's cells by a task's end -/
def KPo (q : Nat) (c c' : Nat → Int) (g g' : Nat → Option Nat) : Prop := (∀ j, 180 ≤ j → g' j = g j) ∧ (∀ k, 488 ≤ k → (∀ t : Nat, k ≠ 496 + 9 * t) → ¬ k = 494 + 9 * q → c' k = c k) ∧ c' 3 = c 3 ∧ c' 4 = c 4
theorem KPk.o {q : Nat} {c c' : Nat → Int} {g g' : Nat → Option Nat} (h : KPk c c' g g') : KPo q c c' g g' := ⟨h.1, fun k a b _ => h.2.1 k a b, h.2.2⟩
theorem KPo.tr {q : Nat} {c c' c'' : Nat → Int} {g g' g'' : Nat → Option Nat} (h : KPo q c c' g g') (k : KPo q c' c'' g' g'') : KPo q c c'' g g'' := ⟨fun j a => (k.1 j a).trans (h.1 j a), fun x a d e => (k.2.1 x a d e).trans (h.2.1 x a d e), k.2.2.1.trans h.2.2.1, k.2.2.2.trans h.2.2.2⟩
section TO
variable {G : mG} {l : Launch} {r : Nat} {b : Int} {pool : Nat → Int} {S : Nat → Option mO} {h0 : mH}
theorem over_inv {q : Nat} : ∀ (n : Nat) (m m' : Nat → Int), (∃ B, Mid m pool B) → overR (shS G l r b pool S h0 61) q n m m' → (∃ B, Mid m' pool B) ∧ Es m m'
  | 0, m, m', hM, hO => by
    obtain rfl : m' = m := hO
    exact ⟨hM, Es.rf⟩
  | n + 1, m, m', ⟨B, hM⟩, hO => by
    obtain ⟨-, m1, ⟨-, -, ⟨B1, hI⟩, sci, es⟩, hO⟩ := hO
    obtain ⟨x, y⟩ := over_inv n m1 m' ⟨B1, hI, sci, es.2.2.2.1 hM.2.2.1, es.ns hM.2.2.2 hM.1.1.2.1.2⟩ hO
    exact ⟨x, es.tr y⟩
theorem sim_over {q : Nat} : ∀ (n : Nat) (m m' : Nat → Int) (k : Nat) (f c : Nat → Int) (C : Nat → Nat → Int) (nm : Nat → Int64) (g : Nat → Option Nat) (h : mH), (∃ B, Mid m pool B) → (q : Int) < m 3 → ¬ m (1610 + 72 * q) = 0 → stkOk m q (n + 1) →
    isR h r b 1 f c C nm g → f 0 = 200 + (q : Int) → Same (rBlk r) h0 h → CR m pool S c C nm g → c (493 + 9 * q) = m (1620 + 72 * q) → c (494 + 9 * q) = m (1620 + 72 * q + n) → psi k m + 400 + 2 * n ≤ 900000 → overR (shS G l r b pool S h0 61) q (n + 1) m m' →
    GOES G l r k h (fun k' h' => ∃ f' c' C' nm' g', isR h' r b 0 f' c' C' nm' g' ∧ Same (rBlk r) h0 h' ∧ CR m' pool S c' C' nm' g' ∧ KPo q c c' g g' ∧ psi k' m' ≤ psi k m + 2 * n + 1) ∧ (∃ B, Mid m' pool B) ∧ Es m m'
  | n, m, m', k, f, c, C, nm, g, h, ⟨B, hM⟩, hq, hst, hk, hR, hf, hSm, hC, h493, h494, hph, hO => by
    have hok := hM.1.1
    have k0 := hok.2.1
    have k3 := hok.2.2.2.2.1
    obtain ⟨-, m1, hsh, hO⟩ := hO
    have top := hk.2.1 n (by omega)
    obtain ⟨u, eu⟩ : ∃ u : Nat, m (1620 + 72 * q + n) = u := ⟨(m (1620 + 72 * q + n)).toNat, by omega⟩
    rw [eu] at hsh h494 top
    obtain ⟨go, hM1, no, es⟩ := over_top (k := k) hM hq hst hR hf hSm hC h494 (by omega) top.2 (by omega) hsh
    have fa : ∀ j, 1608 ≤ j → j < 2328 → (∀ t : Nat, j ≠ 1614 + 72 * t) → m1 j = m j := fun j a d e => es.1 j (Or.inr (Or.inr (Or.inr (Or.inr (Or.inr ⟨a, d, e⟩)))))
    have M0 : m1 0 = m 0 := es.1 0 (Or.inl rfl)
    have M3 : m1 3 = m 3 := es.1 3 (Or.inr (Or.inl rfl))
    have hok1 := hM1.1.1
    have stc : ∀ {f' c' : Nat → Int} {C' : Nat → Nat → Int} {nm' : Nat → Int64} {g' : Nat → Option Nat} {h' : mH} {k' : Nat}, isR h' r b 1 f' c' C' nm' g' → CR m1 pool S c' C' nm' g' → KPk c c' g g' → psi k' m1 ≤ psi k m → (q : Int) < c' 2 ∧ ¬ c' (489 + 9 * q) = 0 ∧ (∀ j, InR (c' j)) ∧ c' (494 + 9 * q) = (u : Int) ∧ (u : Int) < c' 1 ∧ ¬ c' (304 + 3 * u) = 0 ∧ c' (493 + 9 * q) = m (1620 + 72 * q) ∧ c' (305 + 3 * u) = m1 (19 + 4 * u) ∧ k' < 1000000 := fun {f' c' C' nm' g' h' k'} x y z w => by
      obtain ⟨n0, T, A, K, L, E, F, Gg, R, -⟩ := y
      have sr := (hM1.2.1.2.2 u (by omega)).1
      have cn := hM1.2.2.1.cnt hok1.2.2.1.1
      have co := cnt_r (openB m1) (m1 0).toNat
      have k2 := hok1.2.2.2.1
      refine ⟨by rw [n0.2.2.1]; omega, by rw [(K q (by omega)).1, fa _ (by omega) (by omega) (fun t w => by omega)]; exact hst, R, by rw [z.2.1 _ (by omega) (fun t w => by omega)]; exact h494, by rw [n0.2.1]; omega, ?_, by rw [z.2.1 _ (by omega) (fun t w => by omega)]; exact h493, (A u (by omega)).2.1, by unfold psi phi at w hph; unfold psi phi at *; omega⟩
      rw [(A u (by omega)).1]
      exact fun v => no ((swT_0 sr).mp v)
    cases n with
    | zero =>
      obtain rfl : m' = m1 := hO
      refine ⟨go.bind (fun k' h' w => ?_), ⟨_, hM1⟩, es⟩
      obtain ⟨f', c', C', nm', g', x1, x2, x3, x4, x5, x6⟩ := w
      obtain ⟨s1, s2, s3, s4, s5, s6, s7, s8, s9⟩ := stc x1 x4 x5 x6
      have P := cr_scopesDone (G := G) (l := l) 7 x1 s3 (q := q) (by omega) s4 s5 (by omega) ⟨by decide, by decide⟩ (by decide) s6 (by rw [s4, s7, ← eu]; rfl)
      refine (go_task (k := k') x1 ⟨by omega, by omega⟩ s9 (by omega) x2 ((cr_taskOver (G := G) (l := l) 9 x1 s3 s1 (by omega) s2 P).deeper (by decide))).mono (fun k'' h'' w => ?_)
      obtain ⟨rfl, w1, w2⟩ := w
      refine ⟨f', c', C', nm', g', w1, x3.trans w2, x4, x5.o, ?_⟩
      have : psi (k' + 1) m' = psi k' m' + 1 := by unfold psi phi; omega
      omega
    | succ n =>
      have par := hk.2.2 n (by omega)
      rw [eu, show ((u : Int)).toNat = u by omega] at par
      have p19 : m1 (19 + 4 * u) = m (1620 + 72 * q + n) := by
        rw [es.1 (19 + 4 * u) (Or.inr (Or.inr (Or.inr (Or.inr (Or.inl ⟨by omega, by omega, fun c w => by omega⟩))))), par]
      have stk1 : stkOk m1 q (n + 1) := by
        refine ⟨⟨by omega, by omega⟩, fun j hj => ?_, fun j hj => ?_⟩
        · rw [fa _ (by omega) (by omega) (fun t w => by omega), M0]; exact hk.2.1 j (by omega)
        · have z1 := hk.2.1 (j + 1) (by omega)
          rw [fa (1620 + 72 * q + (j + 1)) (by omega) (by omega) (fun t w => by omega), fa (1620 + 72 * q + j) (by omega) (by omega) (fun t w => by omega), es.1 _ (Or.inr (Or.inr (Or.inr (Or.inr (Or.inl ⟨by omega, by omega, fun c w => by omega⟩)))))]
          exact hk.2.2 j (by omega)
      have lt := stk_lt hM.2.1 k0.2 hk n (by omega)
      rw [eu] at lt
      have ih : ∀ {f' c' : Nat → Int} {C' : Nat → Nat → Int} {nm' : Nat → Int64} {g' : Nat → Option Nat} {h' : mH} {k' : Nat}, isR h' r b 1 f' c' C' nm' g' → f' 0 = 200 + (q : Int) → Same (rBlk r) h0 h' → CR m1 pool S c' C' nm' g' → c' (493 + 9 * q) = m (1620 + 72 * q) → c' (494 + 9 * q) = m (1620 + 72 * q + n) → psi k' m1 ≤ psi k m + 1 → GOES G l r k' h' (fun k' h' => ∃ f'' c'' C'' nm'' g'', isR h' r b 0 f'' c'' C'' nm'' g'' ∧ Same (rBlk r) h0 h' ∧ CR m' pool S c'' C'' nm'' g'' ∧ KPo q c' c'' g' g'' ∧ psi k' m' ≤ psi k m + 1 + 2 * n + 1) ∧ (∃ B, Mid m' pool B) ∧ Es m1 m' := fun {f' c' C' nm' g' h' k'} x1 x2 x3 x4 x5 x6 x7 => by
        obtain ⟨y1, y2, y3⟩ := sim_over n m1 m' k' f' c' C' nm' g' h' ⟨_, hM1⟩ (by omega) (by rw [fa _ (by omega) (by omega) (fun t w => by omega)]; exact hst) stk1 x1 x2 x3 x4 (by rw [fa _ (by omega) (by omega) (fun t w => by omega)]; exact x5) (by rw [fa _ (by omega) (by omega) (fun t w => by omega)]; exact x6) (by omega) hO
        refine ⟨y1.mono (fun k'' h'' w => ?_), y2, y3⟩
        obtain ⟨f'', c'', C'', nm'', g'', w1, w2, w3, w4, w5⟩ := w
        exact ⟨f'', c'', C'', nm'', g'', w1, w2, w3, w4, by omega⟩
      have rest : (∃ B, Mid m' pool B) ∧ Es m1 m' := over_inv (n + 1) m1 m' ⟨_, hM1⟩ hO
      refine ⟨go.bind (fun k' h' w => ?_), rest.1, es.tr rest.2⟩
      obtain ⟨f', c', C', nm', g', x1, x2, x3, x4, x5, x6⟩ := w
      obtain ⟨s1, s2, s3, s4, s5, s6, s7, s8, s9⟩ := stc x1 x4 x5 x6
      have P := cr_scopesUp (G := G) (l := l) 7 x1 s3 (q := q) (by omega) s4 s5 (by omega) s6 (by rw [s4, s7]; omega)
      refine (go_task (k := k') x1 ⟨by omega, by omega⟩ s9 (by omega) x2 ((cr_taskOver (G := G) (l := l) 9 x1 s3 s1 (by omega) s2 P).deeper (by decide))).bind (fun k'' h'' w => ?_)
      obtain ⟨rfl, w1, w2⟩ := w
      have y : CR m1 pool S (updI c' (494 + 9 * q) (c' (305 + 3 * u))) C' nm' g' := x4.see hok1 (Int.le_refl _) (fun _ _ => rfl) (fun j hj => updI_n (fun w => by
        subst w
        rcases hj with w | w | w | w | w | ⟨t, w | w⟩ <;> omega)) (fun j => by
        by_cases w : j = 494 + 9 * q
        · subst w; rw [updI_s]; exact s3 _
        · rw [updI_n w]; exact s3 j) (fun _ _ => rfl)
      have pk : psi (k' + 1) m1 = psi k' m1 + 1 := by unfold psi phi; omega
      refine (ih w1 x2 (x3.trans w2) y (by rw [updI_n (by omega)]; exact s7) (by rw [updI_s, s8, p19]) (by omega)).1.mono (fun k'' h'' w => ?_)
      obtain ⟨f'', c'', C'', nm'', g'', z1, z2, z3, z4, z5⟩ := w
      have kp1 : KPo q c (updI c' (494 + 9 * q) (c' (305 + 3 * u))) g g' := ⟨x5.1, fun j a d e => by rw [updI_n e]; exact x5.2.1 j a d, by rw [updI_n (by omega)]; exact x5.2.2.1, by rw [updI_n (by omega)]; exact x5.2.2.2⟩
      exact ⟨f'', c'', C'', nm'', g'', z1, z2, z3, kp1.tr z4, by omega⟩
end TO
end mg_b1
section mg_b2
/-! ===== a turn's steps, on both sides ===== -/
theorem psi_out {m : Nat → Int} {k j : Nat} {v : Int} (h0 : m 0 ≤ 60) (h1 : m 1 ≤ 90) (hj : 1608 ≤ j) : psi k (updI m j v) = psi k m := by
  have e : ∀ q, q < 1608 → updI m j v q = m q := fun q hq => updI_n (by omega)
  have a : cnt (cngB (updI m j v)) (m 1).toNat = cnt (cngB m) (m 1).toNat := cnt_congr _ (fun q hq => by
    show decide (updI m j v (258 + 14 * q) = 1) = decide (m (258 + 14 * q) = 1)
    rw [e _ (by omega)])
  have b : cnt (openB (updI m j v)) (m 0).toNat = cnt (openB m) (m 0).toNat := cnt_congr _ (fun q hq => by unfold openB; rw [e _ (by omega)])
  unfold psi phi
  rw [e 0 (by omega), e 1 (by omega), e 2 (by omega), a, b]
theorem TKR.ch {m m' pool c c' : Nat → Int} {S : Nat → Option mO} {g g' : Nat → Option Nat} {q : Nat} (h : TKR m pool c S g q) (k3 : m 3 ≤ 10) (hn : ∀ u : Nat, (u : Int) < m 3 → ∃ n : Nat, m (1619 + 72 * u) = n ∧ n ≤ 60) (h3 : m' 3 = m 3) (h7 : c' 3 = m' 7) (hm : ∀ j, 1608 ≤ j → j < 2328 → (∀ t : Nat, j ≠ 1614 + 72 * t) → (j < 1608 + 72 * q ∨ 1680 + 72 * q ≤ j) → m' j = m j) (hc : ∀ j, 488 ≤ j → (∀ t : Nat, j ≠ 496 + 9 * t) → (j < 488 + 9 * q ∨ 497 + 9 * q ≤ j) → c' j = c j) (hg : ∀ j, 180 ≤ j → ¬ j = 181 + 2 * q → g' j = g j) (ha : (q : Int) < m 3 → tkA m' pool c' S g' q) : TKR m' pool c' S g' q := by
  refine ⟨h7, fun u hu => ?_⟩
  rw [h3] at hu
  by_cases w : u = q
  · subst w; exact ⟨ha hu, fun z => absurd rfl z⟩
  · obtain ⟨b1, b2⟩ := h.2 u hu
    exact ⟨tkA_c b1 (fun j x y z _ _ => hm j (by omega) (by omega) (fun t w => by omega) (by omega)) (fun j x y z _ => hc j (by omega) (fun t w => by omega) (by omega)) (hg _ (by omega) (by omega)), fun z => tkC_c (b2 z) (fun j x y w => hm j (by omega) (by omega) (fun t w => by omega) (by omega)) (hn u hu) (hc _ (by omega) (fun t w => by omega) (by omega)) (hg _ (by omega) (by omega))⟩
theorem TKR.fin {m pool c : Nat → Int} {S : Nat → Option mO} {g : Nat → Option Nat} {q : Nat} (h : TKR m pool c S g q) (k : tkC m pool c S g q) : TKR m pool c S g 99 := ⟨h.1, fun u hu => ⟨(h.2 u hu).1, fun _ => by
  by_cases w : u = q
  · subst w; exact k
  · exact (h.2 u hu).2 w⟩⟩
theorem TkM.nn {m pool : Nat → Int} {t : Nat} (h : TkM m pool t) : ∀ u : Nat, (u : Int) < m 3 → ∃ n : Nat, m (1619 + 72 * u) = n ∧ n ≤ 60 := fun u hu => by
  obtain ⟨-, -, -, -, -, -, ⟨n, a7, a8⟩, -⟩ := (h.2 u hu).1
  exact ⟨n, a7, a8.1.2⟩
/-- how a turn leaves the world -/
def TNE (r : Nat) (pool : Nat → Int) (S : Nat → Option mO) (h0 : mH) (b : Int) (c : Nat → Int) (m' : Nat → Int) (ps : Int) (k' : Nat) (h' : mH) : Prop :=
  ∃ f' c' C' nm' g', isR h' r b 0 f' c' C' nm' g' ∧ Same (rBlk r) h0 h' ∧ CR m' pool S c' C' nm' g' ∧ TKR m' pool c' S g' 99 ∧ c' 4 = c 4 ∧ psi k' m' ≤ ps
section TL
variable {G : mG} {l : Launch} {r : Nat} {b : Int} {pool : Nat → Int} {S : Nat → Option mO} {h0 : mH}
theorem sim_ends {m m' : Nat → Int} {B : Int} {q o k : Nat} {st : Int} {f c : Nat → Int} {C : Nat → Nat → Int} {nm : Nat → Int64} {g : Nat → Option Nat} {h : mH} (hM : Mid m pool B) (hT : TkM m pool q) (hq : (q : Int) < m 3) (hK : TKR m pool c S g q) (hst : 1 ≤ st ∧ st ≤ 3)
    (hR : isR h r b 1 f (updI c (489 + 9 * q) st) C nm g) (hf : f 0 = 200 + (q : Int)) (hSm : Same (rBlk r) h0 h) (hC : CR m pool S c C nm g) (h494 : c (494 + 9 * q) = m (1620 + 72 * q + o)) (hn : m (1619 + 72 * q) = (o : Int) + 1) (hph : psi k m + 600 ≤ 900000) (hO : isOverR (shS G l r b pool S h0 61) q st m m') :
    GOES G l r k h (TNE r pool S h0 b c m' (psi k m + 130)) := by
  have hok := hM.1.1
  have k0 := hok.2.1
  have k1 := hok.2.2.1
  have k3 := hok.2.2.2.2.1
  obtain ⟨a1, a2, a3, a4, a5, a6, ⟨n, a7, a8⟩, a9, a10⟩ := id (hT.2 q hq).1
  obtain rfl : n = o + 1 := by omega
  obtain ⟨-, n, n60, nn, hO⟩ := hO
  obtain rfl : n = o + 1 := by omega
  have um : ∀ j, ¬ j = 1610 + 72 * q → updI m (1610 + 72 * q) st j = m j := fun j w => updI_n w
  have hM1 : Mid (updI m (1610 + 72 * q) st) pool B := hM.out ⟨by omega, by omega⟩ (by omega)
  have y := (CR_tk hC hok (Int.le_refl _) (q0 := q) (v := st) (by omega) ⟨by omega, by omega⟩).1
  have stk1 : stkOk (updI m (1610 + 72 * q) st) q (o + 1) := by
    refine ⟨a8.1, fun j hj => ?_, fun j hj => ?_⟩
    · rw [um _ (by omega), um 0 (by omega)]; exact a8.2.1 j hj
    · have z1 := a8.2.1 (j + 1) hj
      rw [um (1620 + 72 * q + (j + 1)) (by omega), um (1620 + 72 * q + j) (by omega), um _ (by omega)]; exact a8.2.2 j hj
  have ps := psi_out (k := k) (v := st) k0.2 k1.2 (show 1608 ≤ 1610 + 72 * q by omega)
  obtain ⟨kA, -⟩ := hK.2 q hq
  obtain ⟨go, -, es⟩ := sim_over o _ m' k f _ C nm g h ⟨B, hM1⟩ (by rw [um 3 (by omega)]; exact hq) (by rw [updI_s]; omega) stk1 hR hf hSm y (by rw [updI_n (by omega), um _ (by omega), kA.2.2.2.2.1, a6]) (by rw [updI_n (by omega), um _ (by omega)]; exact h494) (by rw [ps]; omega) hO
  refine go.mono (fun k' h' w => ?_)
  obtain ⟨f', c', C', nm', g', x1, x2, x3, ⟨v1, v2, v3, v4⟩, x5⟩ := w
  have fa : ∀ j, 1608 ≤ j → j < 2328 → (∀ t : Nat, j ≠ 1614 + 72 * t) → ¬ j = 1610 + 72 * q → m' j = m j := fun j a d e z => (es.1 j (Or.inr (Or.inr (Or.inr (Or.inr (Or.inr ⟨a, d, e⟩)))))).trans (um j z)
  have T1 : TKR m' pool c' S g' q := by
    refine hK.ch k3.2 hT.nn ((es.1 3 (Or.inr (Or.inl rfl))).trans (um 3 (by omega))) ?_ (fun j a d e z => fa j a d e (by omega)) (fun j a d z => ?_) (fun j a _ => v1 j a) (fun _ => ?_)
    · rw [v3, updI_n (by omega), hK.1]; exact ((es.1 7 (Or.inr (Or.inr (Or.inl rfl)))).trans (um 7 (by omega))).symm
    · rw [v2 j a d (by omega), updI_n (by omega)]
    · exact tkA_c kA (fun j x y z z2 z3 => fa j (by omega) (by omega) (fun t w => by omega) z2) (fun j x y z z2 => by rw [v2 j (by omega) (fun t w => by omega) z, updI_n z2]) (v1 _ (by omega))
  refine ⟨f', c', C', nm', g', x1, x2, x3, T1.fin (fun z => ?_), by rw [v4, updI_n (by omega)], by rw [ps] at x5; omega⟩
  rw [es.1 (1610 + 72 * q) (Or.inr (Or.inr (Or.inr (Or.inr (Or.inr ⟨by omega, by omega, fun t w => by omega⟩))))), updI_s] at z
  omega
theorem sim_fin {m m' : Nat → Int} {B : Int} {q o k E p : Nat} {f c : Nat → Int} {C : Nat → Nat → Int} {nm : Nat → Int64} {g : Nat → Option Nat} {h : mH} (hM : Mid m pool B) (hT : TkM m pool q) (hq : (q : Int) < m 3) (hrd : m (1610 + 72 * q) = 0) (h18 : m (1618 + 72 * q) = 0) (hK : TKR m pool c S g q)
    (hR : isR h r b 1 f c C nm g) (hf : f 0 = 200 + (q : Int)) (hSm : Same (rBlk r) h0 h) (hC : CR m pool S c C nm g) (h494 : c (494 + 9 * q) = m (1620 + 72 * q + o)) (hn : m (1619 + 72 * q) = (o : Int) + 1) (hg : g (181 + 2 * q) = none) (hph : psi k m + 700 ≤ 900000) (hEp : E ≤ p) (hF : turnFinR (shS G l r b pool S h0 61) q E m p m') :
    GOES G l r k h (TNE r pool S h0 b c m' (psi k m + 200)) := by
  have hok := hM.1.1
  have k0 := hok.2.1
  have k1 := hok.2.2.1
  have k2 := hok.2.2.2.1
  have k3 := hok.2.2.2.2.1
  obtain ⟨n0, T, A, K, L, ⟨Z, e0⟩, ⟨F, f0⟩, Gg, hc, hCC⟩ := id hC
  obtain ⟨-, hp, ⟨w, -⟩ | ⟨-, hO⟩⟩ := hF
  · omega
  obtain ⟨kA, -⟩ := hK.2 q hq
  have fb := f0.2.1
  have co := cnt_r (openB m) (m 0).toNat
  have cc := hM.2.2.1.cnt k1.1
  have hkk : k < 1000000 := by unfold psi phi at hph; omega
  have fce : fcF c (C 5) F (q : Int) = cnt (faultB m q) (m 4).toNat := by
    have of0 : ofF c (q : Int) = 0 := by
      unfold ofF
      rw [show ((q : Int)).toNat = q by omega, kA.2.2.2.2.2.1, h18]
      split <;> rfl
    have b0 : b0F c (q : Int) = 0 := by unfold b0F; rw [if_neg (by omega)]
    unfold fcF
    rw [of0, if_pos rfl, b0, Int.add_zero, f0.2.2.2.1]
    exact (flt_cnt f0 q F (Nat.le_refl _)).symm
  have um : ∀ j, ¬ j = 1611 + 72 * q → updI m (1611 + 72 * q) p j = m j := fun j w => updI_n w
  have hM1 : Mid (updI m (1611 + 72 * q) p) pool B := hM.out ⟨by omega, by omega⟩ (by omega)
  have y : CR (updI m (1611 + 72 * q) p) pool S c C nm g := hC.see hok (Int.le_refl _) (fun j hj => um j (fun w => by
    subst w
    rcases hj with w | w | w | ⟨t, w | w⟩ <;> omega)) (fun _ _ => rfl) hc (fun _ _ => rfl)
  have T1 : TKR (updI m (1611 + 72 * q) p) pool c S g q := hK.ch k3.2 hT.nn (um 3 (by omega)) (by rw [um 7 (by omega)]; exact hK.1) (fun j a d e z => um j (by omega)) (fun _ _ _ _ => rfl) (fun _ _ _ => rfl) (fun _ => tkA_c kA (fun j x y z z2 z3 => um j z3) (fun _ _ _ _ _ => rfl) rfl)
  have hT1 : TkM (updI m (1611 + 72 * q) p) pool q := hT.step (um 3 (by omega)) (um 0 (by omega)) k0.2 k3.2 (by rw [um 7 (by omega)]; exact Int.le_refl _) (by rw [um 8 (by omega)]; exact Int.le_refl _) (fun c _ hc => um _ (by omega)) (fun u hu hu9 => ⟨fun j a b c => um j (by omega), Or.inl (um _ (by omega))⟩) (fun _ => by
    obtain ⟨a1, a2, a3, a4, a5, a6, ⟨n, a7, a8⟩, a9, a10⟩ := (hT.2 q hq).1
    unfold tkB
    rw [updI_s, um 8 (by omega), um _ (by omega), um _ (by omega), um _ (by omega), um _ (by omega), um _ (by omega), um _ (by omega), um _ (by omega), um _ (by omega), um _ (by omega), um _ (by omega), um _ (by omega), um _ (by omega)]
    refine ⟨a1, a2, a3, a4, a5, a6, ⟨n, a7, a8.1, fun k hk => ?_, fun k hk => ?_⟩, ⟨p, rfl, hp⟩, a10⟩
    · rw [um _ (by omega), um 0 (by omega)]; exact a8.2.1 k hk
    · have z1 := a8.2.1 (k + 1) hk
      rw [um (1620 + 72 * q + (k + 1)) (by omega), um (1620 + 72 * q + k) (by omega), um _ (by omega)]; exact a8.2.2 k hk)
  have P := cr_taskEnds (G := G) (l := l) 7 hR hc (by rw [n0.2.2.1]; exact hq) (by omega) f0.1.1 f0.1.2.1 f0.1.2.2 (by omega) f0.2.2.1 (hCC 5) (by rw [(K q hq).1]; exact hrd) hg
  rw [fce] at P
  refine (go_task (k := k) hR ⟨by omega, by omega⟩ hkk (by omega) hf P).bind (fun k' h' w => ?_)
  obtain ⟨rfl, w1, w2⟩ := w
  have ps := psi_out (k := k + 1) (v := (p : Int)) k0.2 k1.2 (show 1608 ≤ 1611 + 72 * q by omega)
  have pk : psi (k + 1) m = psi k m + 1 := by unfold psi phi; omega
  refine (sim_ends (o := o) hM1 hT1 (by rw [um 3 (by omega)]; exact hq) T1 (by split <;> decide) w1 hf (hSm.trans w2) y (by rw [um (1620 + 72 * q + o) (by omega)]; exact h494) (by rw [um (1619 + 72 * q) (by omega)]; exact hn) (by rw [ps]; omega) hO).mono (fun k'' h'' w => ?_)
  obtain ⟨f', c', C', nm', g', x1, x2, x3, x4, x5, x6⟩ := w
  exact ⟨f', c', C', nm', g', x1, x2, x3, x4, x5, by rw [ps] at x6; omega⟩
end TL
end mg_b2
section mg_b3
/-! ===== the loop of a turn, on both sides ===== -/
theorem bnd_aux {A Bn : Nat} {x y : Int} (h : x ≤ y + 301) (s : A + 1 ≤ Bn) : x + 400 * (A : Int) ≤ y + 400 * (Bn : Int) := by omega
theorem sub_aux {E e p : Nat} (h : p < e) (s : e ≤ E) : E - (e + 1) + 1 ≤ E - p := by omega
section TT
variable {G : mG} {l : Launch} {r : Nat} {pool : Nat → Int} {S : Nat → Option mO} {h0 : mH}
theorem sim_tloop (hS : ∀ a o, S a = some o → hGet h0 a = some o) (hSr : ∀ a, ¬ S a = none → ¬ rBlk r a) (hPo : poolOk pool) {q P E : Nat} (hPE : E ≤ P + 120) : ∀ (kf : Nat) (m m' : Nat → Int) (k : Nat) (f c : Nat → Int) (C : Nat → Nat → Int) (nm : Nat → Int64) (g : Nat → Option Nat) (h : mH) (o p : Nat), (∃ B, Mid m pool B) → TkM m pool q → (q : Int) < m 3 → m (1610 + 72 * q) = 0 → m (1618 + 72 * q) = 0 → m (1619 + 72 * q) = (o : Int) + 1 → m (1616 + 72 * q) = P → m (1617 + 72 * q) = E → P ≤ p → m (1615 + 72 * q) ≤ (p : Int) - P → TKR m pool c S g q → rsT pool S (g (181 + 2 * q)) o p E → c (494 + 9 * q) = m (1620 + 72 * q + o) →
    isR h r (q : Int) 1 f c C nm g → f 0 = 200 + (q : Int) → Same (rBlk r) h0 h → CR m pool S c C nm g → psi k m + 400 * ((E - p : Nat) : Int) + 1000 ≤ 900000 → turnLoopI pool (clT G l r (q : Int) pool S h0) (shS G l r (q : Int) pool S h0 61) q E kf m p m' →
    GOES G l r k h (TNE r pool S h0 (q : Int) c m' (psi k m + 400 * ((E - p : Nat) : Int) + 600))
  | kf, m, m', k, f, c, C, nm, g, h, o, p, ⟨B, hM⟩, hT, hq, hrd, h18, hn, hP, hE, hpP, hd, hK, hrs, h494, hR, hf, hSm, hC, hph, hL => by
    have hok := hM.1.1
    have k0 := hok.2.1
    have k1 := hok.2.2.1
    have k3 := hok.2.2.2.2.1
    by_cases pE : E ≤ p
    · have hF : turnFinR (shS G l r (q : Int) pool S h0 61) q E m p m' := by
        cases kf with
        | zero => exact hL.2
        | succ kf =>
          rcases hL with ⟨-, x⟩ | ⟨x, -⟩
          · exact x
          · omega
      have hg : g (181 + 2 * q) = none := by
        rcases hrs with ⟨-, x⟩ | ⟨x, -⟩
        · exact x
        · omega
      exact (sim_fin hM hT hq hrd h18 hK hR hf hSm hC h494 hn hg (by omega) pE hF).mono (fun k' h' w => by
        obtain ⟨f', c', C', nm', g', x1, x2, x3, x4, x5, x6⟩ := w
        exact ⟨f', c', C', nm', g', x1, x2, x3, x4, x5, by omega⟩)
    · cases kf with
      | zero => exact absurd hL.1 pE
      | succ kf =>
        rcases hrs with ⟨x, -⟩ | ⟨hpE, s, hi, n, hg, hl⟩
        · omega
        rcases hL with ⟨x, -⟩ | ⟨-, fl, m1, hdi, hfr, hin, hL⟩
        · omega
        cases n with
        | zero => exact hl.elim
        | succ n =>
          obtain ⟨nx, mid, e, o', hK1, hmid, hend, hnx⟩ := hl
          have tK : stepK pool (stsC pool n) o p e o' := by
            rcases hK1 with ⟨x, xo⟩ | ⟨-, -, x1, x2, x3, -⟩ | ⟨-, -, x1, x2, x3, -⟩
            · exact Or.inl ⟨stQ_t (fun b q r y => stL_tC n 0 b mid q r y) x, xo⟩
            · exact Or.inr (Or.inl ⟨x1, x2, x3⟩)
            · exact Or.inr (Or.inr ⟨x1, x2, x3⟩)
          have lt := stepK_lt tK
          have heE : e ≤ E := by rcases hnx with ⟨rfl, -⟩ | ⟨x, -⟩ <;> omega
          have hbe : behL pool (E - p) p 0 = e := (stepK_skip tK).beh (E := E) heE (by rcases hnx with ⟨x, -⟩ | ⟨_, x, _⟩; exact Or.inl x; exact Or.inr x)
          obtain ⟨kA, -⟩ := hK.2 q hq
          by_cases z : fl = 0
          · subst z
            rcases hL with ⟨x, -⟩ | ⟨-, hL⟩
            · exact absurd rfl x
            rw [hbe] at hL
            obtain ⟨out, ho'⟩ := doesIn_out hM hT hq hn tK hdi.1
            have ho' := ho' rfl
            obtain ⟨-, ⟨B1, hM1⟩, hT1, kt⟩ := id hdi
            obtain ⟨kt3, kt7, kt8, ktq⟩ := id kt
            have hok1 := hM1.1.1
            have h10 := hok1.2.1
            have h11 := hok1.2.2.1
            have h13 := hok1.2.2.2.2.1
            have d1 : m1 (1615 + 72 * q) = m (1615 + 72 * q) := ktq _ (by omega) (by omega) (by omega)
            have d5 := (hT.2 q hq).1.2.2.2.2.1
            have e2 : ∀ j, ¬ j = 1615 + 72 * q → updI m1 (1615 + 72 * q) (m1 (1615 + 72 * q) + 1) j = m1 j := fun j w => updI_n w
            have hm2 : Mid (updI m1 (1615 + 72 * q) (m1 (1615 + 72 * q) + 1)) pool B1 := hM1.out ⟨by omega, by omega⟩ (by omega)
            have hT2 : TkM (updI m1 (1615 + 72 * q) (m1 (1615 + 72 * q) + 1)) pool q := hT1.step (e2 3 (by omega)) (e2 0 (by omega)) h10.2 h13.2 (by rw [e2 7 (by omega)]; exact Int.le_refl _) (by rw [e2 8 (by omega)]; exact Int.le_refl _) (fun c _ hc => e2 _ (by omega)) (fun u hu hu9 => ⟨fun q a b c => e2 q (by omega), Or.inl (e2 _ (by omega))⟩) (fun _ => by
              obtain ⟨a1, a2, a3, a4, a5, a6, ⟨n, a7, a8⟩, a9, a10⟩ := (hT1.2 q (by omega)).1
              unfold tkB
              rw [updI_s, e2 8 (by omega), e2 _ (by omega), e2 _ (by omega), e2 _ (by omega), e2 _ (by omega), e2 _ (by omega), e2 _ (by omega), e2 _ (by omega), e2 _ (by omega), e2 _ (by omega), e2 _ (by omega), e2 _ (by omega), e2 _ (by omega)]
              refine ⟨a1, a2, a3, a4, ⟨by omega, by omega⟩, a6, ⟨n, a7, a8.1, fun k hk => ?_, fun k hk => ?_⟩, a9, a10⟩
              · rw [e2 _ (by omega), e2 0 (by omega)]; exact a8.2.1 k hk
              · have z1 := a8.2.1 (k + 1) hk
                rw [e2 (1620 + 72 * q + (k + 1)) (by omega), e2 (1620 + 72 * q + k) (by omega), e2 _ (by omega)]; exact a8.2.2 k hk)
            have pso : ∀ k', psi k' (updI m1 (1615 + 72 * q) (m1 (1615 + 72 * q) + 1)) = psi k' m1 := fun k' => psi_out h10.2 h11.2 (by omega)
            refine (go_tstep hS hSr hPo hM hT hq hrd hR hf hSm hC kA.1 kA.2.2.2.2.1 h494 hn (by omega) hg hK1 (endC_nd hend) hdi (if pool p = 46 ∧ ¬ nx = none then 0 else 1) rfl).bind (fun k' h' w => ?_)
            obtain ⟨f', c', C', nm', g', x1, x2, x3, x4, x5, x6, x7, x8, x9, x10⟩ := w
            have c488 : c' (488 + 9 * q) = c (488 + 9 * q) + 1 := by rw [x6 _ (by omega) (fun t w => by omega) (by omega), updI_s]
            have cn : ∀ j, 488 ≤ j → (∀ t : Nat, j ≠ 496 + 9 * t) → ¬ j = 494 + 9 * q → ¬ j = 488 + 9 * q → c' j = c j := fun j a b d e => by rw [x6 j a b d, updI_n e]
            have gn : ∀ j, 180 ≤ j → ¬ j = 181 + 2 * q → g' j = g j := fun j a b => by rw [x5 j a, updO_n b]
            have mn : ∀ j, 1608 + 72 * q ≤ j → j < 1619 + 72 * q → ¬ j = 1614 + 72 * q → ¬ j = 1615 + 72 * q → updI m1 (1615 + 72 * q) (m1 (1615 + 72 * q) + 1) j = m j := fun j a b d e => by rw [e2 j e]; exact ktq j a b d
            have y2 : CR (updI m1 (1615 + 72 * q) (m1 (1615 + 72 * q) + 1)) pool S c' C' nm' g' := x3.see hok1 (Int.le_refl _) (fun j hj => e2 j (fun w => by
              subst w
              rcases hj with w | w | w | ⟨t, w | w⟩ <;> omega)) (fun _ _ => rfl) (by obtain ⟨-, -, -, -, -, -, -, -, R⟩ := id x3; exact R.1) (fun _ _ => rfl)
            have K2 : TKR (updI m1 (1615 + 72 * q) (m1 (1615 + 72 * q) + 1)) pool c' S g' q := by
              refine hK.ch k3.2 hT.nn ((e2 3 (by omega)).trans kt3) (by rw [x7, hK.1, e2 7 (by omega), kt7]) (fun j a b d w => ?_) (fun j a b w => cn j a b (by omega) (by omega)) gn (fun _ => ?_)
              · rw [e2 j (by omega)]; exact out j a b d (by omega)
              · obtain ⟨b1, b2, b3, b4, b5, b6, b7, b8, b9, P', E', b10, b11, b12, b13⟩ := kA
                refine ⟨?_, ?_, ?_, ?_, ?_, ?_, b7, b8, b9, P', E', ?_, ?_, ?_, b13⟩
                · rw [c488, updI_s, b1, d1]
                · rw [cn _ (by omega) (fun t w => by omega) (by omega) (by omega), mn _ (by omega) (by omega) (by omega) (by omega)]; exact b2
                · rw [cn _ (by omega) (fun t w => by omega) (by omega) (by omega), mn _ (by omega) (by omega) (by omega) (by omega)]; exact b3
                · rw [cn _ (by omega) (fun t w => by omega) (by omega) (by omega), mn _ (by omega) (by omega) (by omega) (by omega)]; exact b4
                · rw [cn _ (by omega) (fun t w => by omega) (by omega) (by omega), mn _ (by omega) (by omega) (by omega) (by omega)]; exact b5
                · rw [cn _ (by omega) (fun t w => by omega) (by omega) (by omega), mn _ (by omega) (by omega) (by omega) (by omega)]; exact b6
                · rw [mn _ (by omega) (by omega) (by omega) (by omega)]; exact b10
                · rw [mn _ (by omega) (by omega) (by omega) (by omega)]; exact b11
                · rw [gn _ (by omega) (by omega)]; exact b12
            have r10 : updI m1 (1615 + 72 * q) (m1 (1615 + 72 * q) + 1) (1610 + 72 * q) = 0 := by rw [mn _ (by omega) (by omega) (by omega) (by omega)]; exact hrd
            have r18 : updI m1 (1615 + 72 * q) (m1 (1615 + 72 * q) + 1) (1618 + 72 * q) = 0 := by rw [mn _ (by omega) (by omega) (by omega) (by omega)]; exact h18
            have r19 : updI m1 (1615 + 72 * q) (m1 (1615 + 72 * q) + 1) (1619 + 72 * q) = (o' : Int) + 1 := by rw [e2 _ (by omega)]; exact ho'
            have r16 : updI m1 (1615 + 72 * q) (m1 (1615 + 72 * q) + 1) (1616 + 72 * q) = P := by rw [mn _ (by omega) (by omega) (by omega) (by omega)]; exact hP
            have r17 : updI m1 (1615 + 72 * q) (m1 (1615 + 72 * q) + 1) (1617 + 72 * q) = E := by rw [mn _ (by omega) (by omega) (by omega) (by omega)]; exact hE
            have r494 : c' (494 + 9 * q) = updI m1 (1615 + 72 * q) (m1 (1615 + 72 * q) + 1) (1620 + 72 * q + o') := by rw [e2 _ (by omega)]; exact x9
            have g181 : g' (181 + 2 * q) = nx := by rw [x5 _ (by omega), updO_s]
            have hq2 : (q : Int) < updI m1 (1615 + 72 * q) (m1 (1615 + 72 * q) + 1) 3 := by rw [e2 3 (by omega)]; omega
            have rs : rsT pool S (g' (181 + 2 * q)) o' (e + 1) E := by
              rcases hnx with ⟨w1, w2⟩ | ⟨w1, w2, b, w3, w4, w5⟩
              · exact Or.inl ⟨by omega, by rw [g181]; exact w2⟩
              · exact Or.inr ⟨stL_lt w5, b, hi, n, by rw [g181]; exact w3, w5⟩
            have bnd : psi k' (updI m1 (1615 + 72 * q) (m1 (1615 + 72 * q) + 1)) + 400 * ((E - (e + 1) : Nat) : Int) ≤ psi k m + 400 * ((E - p : Nat) : Int) := by
              rw [pso]
              have s1 : E - (e + 1) + 1 ≤ E - p := sub_aux lt heE
              exact bnd_aux x10 s1
            have four : c' 4 = c 4 := x8
            have done : ∀ {k'' h''} {ps : Int}, ps ≤ psi k m + 400 * ((E - p : Nat) : Int) + 600 → TNE r pool S h0 (q : Int) c' m' ps k'' h'' → TNE r pool S h0 (q : Int) c m' (psi k m + 400 * ((E - p : Nat) : Int) + 600) k'' h'' := fun {k'' h'' ps} a w => by
              obtain ⟨f3, c3, C3, nm3, g3, y1, y2, y3, y4, y5, y6⟩ := w
              exact ⟨f3, c3, C3, nm3, g3, y1, y2, y3, y4, y5.trans four, by omega⟩
            by_cases dot : pool p = 46 ∧ ¬ nx = none
            · rw [if_pos dot] at x1 x4
              rcases hL with ⟨-, hF⟩ | ⟨w, -⟩
              · rcases hnx with ⟨-, w⟩ | ⟨w1, w2, b, w3, w4, w5⟩
                · exact absurd w dot.2
                have lt2 := stL_lt w5
                obtain ⟨-, hp2, ⟨-, hF⟩ | ⟨w, -⟩⟩ := hF
                · have um : ∀ j, ¬ j = 1611 + 72 * q → m' j = updI m1 (1615 + 72 * q) (m1 (1615 + 72 * q) + 1) j := fun j w => by rw [hF, updI_n w]
                  have y3 : CR m' pool S c' C' nm' g' := y2.see hm2.1.1 (Int.le_refl _) (fun j hj => um j (fun w => by
                    subst w
                    rcases hj with w | w | w | ⟨t, w | w⟩ <;> omega)) (fun _ _ => rfl) (by obtain ⟨-, -, -, -, -, -, -, -, R⟩ := id x3; exact R.1) (fun _ _ => rfl)
                  have K3 : TKR m' pool c' S g' q := by
                    refine K2.ch (by rw [e2 3 (by omega)]; exact h13.2) hT2.nn (um 3 (by omega)) (by rw [um 7 (by omega)]; exact K2.1) (fun j a d e z => um j (by omega)) (fun _ _ _ _ => rfl) (fun _ _ _ => rfl) (fun _ => tkA_c (K2.2 q hq2).1 (fun j x y z z2 z3 => um j z3) (fun _ _ _ _ _ => rfl) rfl)
                  refine GOES.rf ⟨f', c', C', nm', g', x1, x2, y3, K3.fin (fun _ => ⟨by rw [um _ (by omega)]; exact r18, o', e + 1, E, by rw [um _ (by omega)]; exact r19, by rw [um _ (by omega)]; exact r17, by rw [hF, updI_s], by rw [um _ (by omega)]; exact r494, rs⟩), four, ?_⟩
                  rw [hF, psi_out (by rw [e2 0 (by omega)]; exact h10.2) (by rw [e2 1 (by omega)]; exact h11.2) (by omega), pso]
                  omega
                · omega
              · exact absurd dot.1 w
            · rw [if_neg dot] at x1 x4
              have ff : f' 0 = 200 + (q : Int) := by rw [x4 rfl]; exact hf
              rcases hL with ⟨w, hF⟩ | ⟨-, hL⟩
              · have nx0 : nx = none := by
                  cases nx with
                  | none => rfl
                  | some s2 => exact absurd ⟨w, fun v => by cases v⟩ dot
                rcases hnx with ⟨w1, -⟩ | ⟨-, -, b, w3, -⟩
                · exact (sim_fin hm2 hT2 hq2 r10 r18 K2 x1 ff x2 y2 r494 r19 (by rw [g181]; exact nx0) (by omega) (by omega) hF).mono (fun k'' h'' w => done (by omega) w)
                · rw [nx0] at w3; cases w3
              · exact (sim_tloop hS hSr hPo hPE kf _ m' k' f' c' C' nm' g' h' o' (e + 1) ⟨B1, hm2⟩ hT2 hq2 r10 r18 r19 r16 r17 (by omega) (by rw [updI_s]; omega) K2 rs r494 x1 ff x2 y2 (by omega) hL).mono (fun k'' h'' w => done (by omega) w)
          · rcases hL with ⟨-, hO⟩ | ⟨x, -⟩
            · obtain ⟨em, go⟩ := go_tfault (k := k) hS hSr hPo hM hT hq hrd hR hf hSm hC h494 hn (by omega) hg hK1 (endC_nd hend) hfr z hdi.1
              rw [em] at hO
              refine go.bind (fun k' h' w => ?_)
              obtain ⟨rfl, w1, w2⟩ := w
              have um : ∀ j, ¬ j = 1618 + 72 * q → updI m (1618 + 72 * q) fl j = m j := fun j w => updI_n w
              have uc : ∀ j, ¬ j = 495 + 9 * q → updI c (495 + 9 * q) fl j = c j := fun j w => updI_n w
              have hM2 : Mid (updI m (1618 + 72 * q) fl) pool B := hM.out hfr (by omega)
              obtain ⟨-, -, -, -, -, -, -, -, Rc, -⟩ := id hC
              have y : CR (updI m (1618 + 72 * q) fl) pool S (updI c (495 + 9 * q) fl) C nm g := hC.see hok (Int.le_refl _) (fun j hj => um j (fun w => by
                subst w
                rcases hj with w | w | w | ⟨t, w | w⟩ <;> omega)) (fun j hj => uc j (fun w => by
                subst w
                rcases hj with w | w | w | w | w | ⟨t, w | w⟩ <;> omega)) (fun j => by
                by_cases w : j = 495 + 9 * q
                · subst w; rw [updI_s]; exact hfr
                · rw [uc j w]; exact Rc j) (fun _ _ => rfl)
              have hT2 : TkM (updI m (1618 + 72 * q) fl) pool q := hT.step (um 3 (by omega)) (um 0 (by omega)) k0.2 k3.2 (by rw [um 7 (by omega)]; exact Int.le_refl _) (by rw [um 8 (by omega)]; exact Int.le_refl _) (fun c _ hc => um _ (by omega)) (fun u hu hu9 => ⟨fun q a b c => um q (by omega), Or.inl (um _ (by omega))⟩) (fun _ => by
                obtain ⟨a1, a2, a3, a4, a5, a6, ⟨n, a7, a8⟩, a9, a10⟩ := (hT.2 q hq).1
                unfold tkB
                rw [um 8 (by omega), um _ (by omega), um _ (by omega), um _ (by omega), um _ (by omega), um _ (by omega), um _ (by omega), um _ (by omega), um _ (by omega), um _ (by omega), um _ (by omega), um _ (by omega), um _ (by omega), um _ (by omega)]
                refine ⟨a1, a2, a3, a4, a5, a6, ⟨n, a7, a8.1, fun k hk => ?_, fun k hk => ?_⟩, a9, a10⟩
                · rw [um _ (by omega), um 0 (by omega)]; exact a8.2.1 k hk
                · have z1 := a8.2.1 (k + 1) hk
                  rw [um (1620 + 72 * q + (k + 1)) (by omega), um (1620 + 72 * q + k) (by omega), um _ (by omega)]; exact a8.2.2 k hk)
              have K2 : TKR (updI m (1618 + 72 * q) fl) pool (updI c (495 + 9 * q) fl) S g q := by
                refine hK.ch k3.2 hT.nn (um 3 (by omega)) (by rw [uc 3 (by omega), um 7 (by omega)]; exact hK.1) (fun j a b d w => um j (by omega)) (fun j a b w => uc j (by omega)) (fun _ _ _ => rfl) (fun _ => ?_)
                obtain ⟨b1, b2, b3, b4, b5, b6, b7, b8, b9, P', E', b10, b11, b12, b13⟩ := kA
                refine ⟨?_, ?_, ?_, ?_, ?_, by rw [updI_s, updI_s], b7, b8, b9, P', E', ?_, ?_, b12, b13⟩
                · rw [uc _ (by omega), um _ (by omega)]; exact b1
                · rw [uc _ (by omega), um _ (by omega)]; exact b2
                · rw [uc _ (by omega), um _ (by omega)]; exact b3
                · rw [uc _ (by omega), um _ (by omega)]; exact b4
                · rw [uc _ (by omega), um _ (by omega)]; exact b5
                · rw [um _ (by omega)]; exact b10
                · rw [um _ (by omega)]; exact b11
              have pso := psi_out (k := k + 1) (v := fl) k0.2 k1.2 (show 1608 ≤ 1618 + 72 * q by omega)
              have pk : psi (k + 1) m = psi k m + 1 := by unfold psi phi; omega
              refine (sim_ends (o := o) hM2 hT2 (by rw [um 3 (by omega)]; exact hq) K2 (by decide) w1 hf (hSm.trans w2) y (by rw [uc _ (by omega), um (1620 + 72 * q + o) (by omega)]; exact h494) (by rw [um (1619 + 72 * q) (by omega)]; exact hn) (by rw [pso]; omega) hO).mono (fun k'' h'' w => ?_)
              obtain ⟨f3, c3, C3, nm3, g3, y1, y2, y3, y4, y5, y6⟩ := w
              exact ⟨f3, c3, C3, nm3, g3, y1, y2, y3, y4, y5.trans (uc 4 (by omega)), by rw [pso] at y6; omega⟩
            · exact absurd x z
end TT
end mg_b3

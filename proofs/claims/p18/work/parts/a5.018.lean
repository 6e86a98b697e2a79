section mg_b1
section TO
variable {G : mG} {l : Launch} {r : Nat} {b : Int} {pool : Nat → Int} {S : Nat → Option mO} {h0 : mH}
theorem sim_over {q : Nat} : ∀ (n : Nat) (m m' : Nat → Int) (k : Nat) (f c : Nat → Int) (C : Nat → Nat → Int) (nm : Nat → Int64) (g : Nat → Option Nat) (h : mH), (∃ B, Mid m pool B) → (q : Int) < m 3 → ¬ m (1610 + 72 * q) = 0 → stkOk m q (n + 1) →
    isR h r b 1 f c C nm g → f 0 = 200 + (q : Int) → Same (rBlk r) h0 h → CR m pool S c C nm g → c (493 + 9 * q) = m (1620 + 72 * q) → c (494 + 9 * q) = m (1620 + 72 * q + n) → psi k m + 400 + 2 * n ≤ 900000 → overR (shS G l r b pool S h0 61) q (n + 1) m m' →
    GOES G l r k h (fun k' h' => ∃ f' c' C' nm' g', isR h' r b 0 f' c' C' nm' g' ∧ Same (rBlk r) h0 h' ∧ CR m' pool S c' C' nm' g' ∧ KPo q c c' g g' ∧ psi k' m' ≤ psi k m + 2 * n + 1) ∧ (∃ B, Mid m' pool B) ∧ Es m m'
  | n, m, m', k, f, c, C, nm, g, h, ⟨B, hM⟩, hq, hst, hk, hR, hf, hSm, hC, h493, h494, hph, hO => by
    have hok := hM.1.1
    have k0 := hok.2.1
    have k3 := hok.2.2.2.2.1
    obtain ⟨-, m1, hsh, hO⟩ := hO
    have top := hk.2.1 n (by omega)
    obtain ⟨u, eu⟩ : ∃ u : Nat, m (1620 + 72 * q + n) = u := ⟨(m (1620 + 72 * q + n)).toNat, by omega⟩
    rw [eu] at hsh h494 top
    obtain ⟨go, hM1, no, es⟩ := over_top (k := k) hM hq hst hR hf hSm hC h494 (by omega) top.2 (by omega) hsh
    have fa : ∀ j, 1608 ≤ j → j < 2328 → (∀ t : Nat, j ≠ 1614 + 72 * t) → m1 j = m j := fun j a d e => es.1 j (Or.inr (Or.inr (Or.inr (Or.inr (Or.inr ⟨a, d, e⟩)))))
    have M0 : m1 0 = m 0 := es.1 0 (Or.inl rfl)
    have M3 : m1 3 = m 3 := es.1 3 (Or.inr (Or.inl rfl))
    have hok1 := hM1.1.1
    have stc : ∀ {f' c' : Nat → Int} {C' : Nat → Nat → Int} {nm' : Nat → Int64} {g' : Nat → Option Nat} {h' : mH} {k' : Nat}, isR h' r b 1 f' c' C' nm' g' → CR m1 pool S c' C' nm' g' → KPk c c' g g' → psi k' m1 ≤ psi k m → (q : Int) < c' 2 ∧ ¬ c' (489 + 9 * q) = 0 ∧ (∀ j, InR (c' j)) ∧ c' (494 + 9 * q) = (u : Int) ∧ (u : Int) < c' 1 ∧ ¬ c' (304 + 3 * u) = 0 ∧ c' (493 + 9 * q) = m (1620 + 72 * q) ∧ c' (305 + 3 * u) = m1 (19 + 4 * u) ∧ k' < 1000000 := fun {f' c' C' nm' g' h' k'} x y z w => by
      obtain ⟨n0, T, A, K, L, E, F, Gg, R, -⟩ := y
      have sr := (hM1.2.1.2.2 u (by omega)).1
      have cn := hM1.2.2.1.cnt hok1.2.2.1.1
      have co := cnt_r (openB m1) (m1 0).toNat
      have k2 := hok1.2.2.2.1
      refine ⟨by rw [n0.2.2.1]; omega, by rw [(K q (by omega)).1, fa _ (by omega) (by omega) (fun t w => by omega)]; exact hst, R, by rw [z.2.1 _ (by omega) (fun t w => by omega)]; exact h494, by rw [n0.2.1]; omega, ?_, by rw [z.2.1 _ (by omega) (fun t w => by omega)]; exact h493, (A u (by omega)).2.1, by unfold psi phi at w hph; unfold psi phi at *; omega⟩
      rw [(A u (by omega)).1]
      exact fun v => no ((swT_0 sr).mp v)
    cases n with
    | zero =>
      obtain rfl : m' = m1 := hO
      refine ⟨go.bind (fun k' h' w => ?_), ⟨_, hM1⟩, es⟩
      obtain ⟨f', c', C', nm', g', x1, x2, x3, x4, x5, x6⟩ := w
      obtain ⟨s1, s2, s3, s4, s5, s6, s7, s8, s9⟩ := stc x1 x4 x5 x6
      have P := cr_scopesDone (G := G) (l := l) 7 x1 s3 (q := q) (by omega) s4 s5 (by omega) ⟨by decide, by decide⟩ (by decide) s6 (by rw [s4, s7, ← eu]; rfl)
      refine (go_task (k := k') x1 ⟨by omega, by omega⟩ s9 (by omega) x2 ((cr_taskOver (G := G) (l := l) 9 x1 s3 s1 (by omega) s2 P).deeper (by decide))).mono (fun k'' h'' w => ?_)
      obtain ⟨rfl, w1, w2⟩ := w
      refine ⟨f', c', C', nm', g', w1, x3.trans w2, x4, x5.o, ?_⟩
      have : psi (k' + 1) m' = psi k' m' + 1 := by unfold psi phi; omega
      omega
    | succ n =>
      have par := hk.2.2 n (by omega)
      rw [eu, show ((u : Int)).toNat = u by omega] at par
      have p19 : m1 (19 + 4 * u) = m (1620 + 72 * q + n) := by
        rw [es.1 (19 + 4 * u) (Or.inr (Or.inr (Or.inr (Or.inr (Or.inl ⟨by omega, by omega, fun c w => by omega⟩))))), par]
      have stk1 : stkOk m1 q (n + 1) := by
        refine ⟨⟨by omega, by omega⟩, fun j hj => ?_, fun j hj => ?_⟩
        · rw [fa _ (by omega) (by omega) (fun t w => by omega), M0]; exact hk.2.1 j (by omega)
        · have z1 := hk.2.1 (j + 1) (by omega)
          rw [fa (1620 + 72 * q + (j + 1)) (by omega) (by omega) (fun t w => by omega), fa (1620 + 72 * q + j) (by omega) (by omega) (fun t w => by omega), es.1 _ (Or.inr (Or.inr (Or.inr (Or.inr (Or.inl ⟨by omega, by omega, fun c w => by omega⟩)))))]
          exact hk.2.2 j (by omega)
      have lt := stk_lt hM.2.1 k0.2 hk n (by omega)
      rw [eu] at lt
      have ih : ∀ {f' c' : Nat → Int} {C' : Nat → Nat → Int} {nm' : Nat → Int64} {g' : Nat → Option Nat} {h' : mH} {k' : Nat}, isR h' r b 1 f' c' C' nm' g' → f' 0 = 200 + (q : Int) → Same (rBlk r) h0 h' → CR m1 pool S c' C' nm' g' → c' (493 + 9 * q) = m (1620 + 72 * q) → c' (494 + 9 * q) = m (1620 + 72 * q + n) → psi k' m1 ≤ psi k m + 1 → GOES G l r k' h' (fun k' h' => ∃ f'' c'' C'' nm'' g'', isR h' r b 0 f'' c'' C'' nm'' g'' ∧ Same (rBlk r) h0 h' ∧ CR m' pool S c'' C'' nm'' g'' ∧ KPo q c' c'' g' g'' ∧ psi k' m' ≤ psi k m + 1 + 2 * n + 1) ∧ (∃ B, Mid m' pool B) ∧ Es m1 m' := fun {f' c' C' nm' g' h' k'} x1 x2 x3 x4 x5 x6 x7 => by
        obtain ⟨y1, y2, y3⟩ := sim_over n m1 m' k' f' c' C' nm' g' h' ⟨_, hM1⟩ (by omega) (by rw [fa _ (by omega) (by omega) (fun t w => by omega)]; exact hst) stk1 x1 x2 x3 x4 (by rw [fa _ (by omega) (by omega) (fun t w => by omega)]; exact x5) (by rw [fa _ (by omega) (by omega) (fun t w => by omega)]; exact x6) (by omega) hO
        refine ⟨y1.mono (fun k'' h'' w => ?_), y2, y3⟩
        obtain ⟨f'', c'', C'', nm'', g'', w1, w2, w3, w4, w5⟩ := w
        exact ⟨f'', c'', C'', nm'', g'', w1, w2, w3, w4, by omega⟩
      have rest : (∃ B, Mid m' pool B) ∧ Es m1 m' := over_inv (n + 1) m1 m' ⟨_, hM1⟩ hO
      refine ⟨go.bind (fun k' h' w => ?_), rest.1, es.tr rest.2⟩
      obtain ⟨f', c', C', nm', g', x1, x2, x3, x4, x5, x6⟩ := w
      obtain ⟨s1, s2, s3, s4, s5, s6, s7, s8, s9⟩ := stc x1 x4 x5 x6
      have P := cr_scopesUp (G := G) (l := l) 7 x1 s3 (q := q) (by omega) s4 s5 (by omega) s6 (by rw [s4, s7]; omega)
      refine (go_task (k := k') x1 ⟨by omega, by omega⟩ s9 (by omega) x2 ((cr_taskOver (G := G) (l := l) 9 x1 s3 s1 (by omega) s2 P).deeper (by decide))).bind (fun k'' h'' w => ?_)
      obtain ⟨rfl, w1, w2⟩ := w
      have y : CR m1 pool S (updI c' (494 + 9 * q) (c' (305 + 3 * u))) C' nm' g' := x4.see hok1 (Int.le_refl _) (fun _ _ => rfl) (fun j hj => updI_n (fun w => by
        subst w
        rcases hj with w | w | w | w | w | ⟨t, w | w⟩ <;> omega)) (fun j => by
        by_cases w : j = 494 + 9 * q
        · subst w; rw [updI_s]; exact s3 _
        · rw [updI_n w]; exact s3 j) (fun _ _ => rfl)
      have pk : psi (k' + 1) m1 = psi k' m1 + 1 := by unfold psi phi; omega
      refine (ih w1 x2 (x3.trans w2) y (by rw [updI_n (by omega)]; exact s7) (by rw [updI_s, s8, p19]) (by omega)).1.mono (fun k'' h'' w => ?_)
      obtain ⟨f'', c'', C'', nm'', g'', z1, z2, z3, z4, z5⟩ := w
      have kp1 : KPo q c (updI c' (494 + 9 * q) (c' (305 + 3 * u))) g g' := ⟨x5.1, fun j a d e => by rw [updI_n e]; exact x5.2.1 j a d, by rw [updI_n (by omega)]; exact x5.2.2.1, by rw [updI_n (by omega)]; exact x5.2.2.2⟩
      exact ⟨f'', c'', C'', nm'', g'', z1, z2, z3, kp1.tr z4, by omega⟩
end TO
end mg_b1

section mg_a3
section SC
variable {G : mG} {l : Launch} {r : Nat} {b : Int} {pool : Nat → Int} {S : Nat → Option mO} {h0 : mH} {n : Nat}
theorem sim_loop (hS : ∀ a o, S a = some o → hGet h0 a = some o) (hSr : ∀ a, ¬ S a = none → ¬ rBlk r a) (hb : -1 ≤ b ∧ b ≤ 9) (hPo : poolOk pool) {t z E : Nat} : ∀ (kf : Nat) (m m2 : Nat → Int) (B : Int) (k p : Nat) (fl : Int) (f c : Nat → Int) (C : Nat → Nat → Int) (nm : Nat → Int64) (g : Nat → Option Nat) (h : mH), Inv m pool B → SR m → isR h r b ((z : Int) + 1) f c C nm g → f z = t → Same (rBlk r) h0 h → CR m pool S c C nm g → (t : Int) < m 1 → m (258 + 14 * t) = 1 → (z : Int) + 1 ≤ 61 + cnt (cngB m) (m 1).toNat → phi k m + ((E + 1 : Nat) : Int) - p ≤ 900000 → p ≤ E + 1 → rsO S pool (g (2 * t + 1)) p E →
    loopR pool (drI pool (clS G l r b pool S h0 n)) t E kf m p fl m2 → GOES G l r k h (STP r b pool S h0 m t z f c g fl m2 none (phi k m + ((E + 1 : Nat) : Int) - p)) ∧ Ev m m2 ∧ ∃ B, Inv m2 pool B
  | kf, m, m2, B, k, p, fl, f, c, C, nm, g, h, hI, hSR, hR, hf, hSm, hC, ht, hcl, hz, hph, hpE, hp, hL => by
    have stop : E ≤ p → fl = 0 → m2 = m → GOES G l r k h (STP r b pool S h0 m t z f c g fl m2 none (phi k m + ((E + 1 : Nat) : Int) - p)) ∧ Ev m m2 ∧ ∃ B, Inv m2 pool B := fun a1 a2 a3 => by
      subst a3
      subst a2
      rcases hp with ⟨-, b2⟩ | ⟨s, hi, nn, -, b3⟩
      · exact ⟨GOES.rf ⟨f, c, C, nm, g, hR, hSm, fun _ => ⟨hC, b2⟩, fun w => absurd rfl w, fun _ _ => rfl, fun _ _ _ _ => rfl, fun _ _ => rfl, fun _ _ _ => rfl, rfl, rfl, by omega⟩, Ev.rf, B, hI⟩
      · have := stL_lt b3; omega
    cases kf with
    | zero => exact stop hL.1 hL.2.1 hL.2.2
    | succ kf =>
      rcases hL with ⟨a1, a2, a3⟩ | ⟨a1, f1, m1, a2, a3, a4⟩
      · exact stop a1 a2 a3
      · rcases hp with ⟨b1, -⟩ | ⟨s, hi, nn, b2, b3⟩
        · omega
        · cases nn with
          | zero => exact b3.elim
          | succ nn =>
            obtain ⟨nx, mid, e, o', c1, c2, c3, c4⟩ := b3
            have hQ : stQ S pool (stL S pool nn false 0) s nx mid p e := by
              rcases c1 with ⟨c1, -⟩ | ⟨c1, -⟩ | ⟨c1, -⟩
              · exact c1
              · cases c1
              · cases c1
            have lt := stepQ_lt (stQ_t (fun b q r g => stL_tC nn 0 b mid q r g) hQ)
            have heE : e ≤ E := by rcases c4 with c4 | ⟨c4, -⟩ <;> omega
            have hbe := (stepQ_skip (fun a b => stsC_skip nn a b) (stQ_t (fun b q r g => stL_tC nn 0 b mid q r g) hQ)).beh (E := E) heE (by rcases c4 with c4 | ⟨_, c4, _⟩; exact Or.inl c4.1; exact Or.inr c4)
            have step := go_step (n := n) hS hSr hb hPo hI hSR hR hf hSm hC ht hcl hz (k := k) (by omega) b2 hQ (endC_nd c3) a3 a2
            obtain ⟨-, ⟨B1, hI1⟩, hE1⟩ := a2
            have k0 := hI.1.2.1
            have k1 := hI.1.2.2.1
            rcases a4 with ⟨a4, rfl, rfl⟩ | ⟨rfl, a5⟩
            · refine ⟨step.mono (fun k' h' q => ?_), hE1, B1, hI1⟩
              obtain ⟨f', c', C', nm', g', q1, q2, q3, q4, q5, q6, q7, q8, q9, q10, q11⟩ := q
              exact ⟨f', c', C', nm', g', q1, q2, fun w => absurd w a4, q4, q5, q6, q7, q8, q9, q10, by omega⟩
            · rw [hbe] at a5
              have ht1 : (t : Int) < m1 1 := by have := hE1.2.1; omega
              have hcl1 : m1 (258 + 14 * t) = 1 := (hE1.2.2.2.1 t ht).2.2.1.mpr hcl
              have hcg := hE1.cng k1.1
              have sr1 := hE1.sr hSR k0.2
              have rest : ∀ (k' : Nat) (h' : mH) (f' c' : Nat → Int) (C' : Nat → Nat → Int) (nm' : Nat → Int64) (g' : Nat → Option Nat), isR h' r b ((z : Int) + 1) f' c' C' nm' g' → f' z = t → Same (rBlk r) h0 h' → CR m1 pool S c' C' nm' g' → g' (2 * t + 1) = nx → phi k' m1 ≤ phi k m + 1 → GOES G l r k' h' (STP r b pool S h0 m1 t z f' c' g' fl m2 none (phi k' m1 + ((E + 1 : Nat) : Int) - ((e + 1 : Nat) : Int))) ∧ Ev m1 m2 ∧ ∃ B, Inv m2 pool B := fun k' h' f' c' C' nm' g' q1 q2 q3 q4 q5 q6 => by
                refine sim_loop hS hSr hb hPo kf m1 m2 B1 k' (e + 1) fl f' c' C' nm' g' h' hI1 sr1 q1 q2 q3 q4 ht1 hcl1 (by rw [hcg]; exact hz) (by omega) (by omega) ?_ a5
                rcases c4 with ⟨c4, c5⟩ | ⟨c4, c5, b', c6, c7, c8⟩
                · exact Or.inl ⟨by omega, by rw [q5]; exact c5⟩
                · exact Or.inr ⟨b', hi, nn, by rw [q5]; exact c6, stL_o nn o' _ _ _ _ c8⟩
              have ev2 : Ev m1 m2 ∧ ∃ B, Inv m2 pool B := loop_inv kf m1 m2 B1 (e + 1) fl hI1 a5
              refine ⟨step.bind (fun k' h' q => ?_), hE1.tr ev2.1, ev2.2⟩
              obtain ⟨f', c', C', nm', g', q1, q2, q3, q4, q5, q6, q7, q8, q9, q10, q11⟩ := q
              obtain ⟨q3, qn⟩ := q3 rfl
              refine (rest k' h' f' c' C' nm' g' q1 (by rw [q5 z (Nat.le_refl _)]; exact hf) q2 q3 qn q11).1.mono (fun k'' h'' w => ?_)
              obtain ⟨f'', c'', C'', nm'', g'', w1, w2, w3, w4, w5, w6, w7, w8, w9, w10, w11⟩ := w
              refine ⟨f'', c'', C'', nm'', g'', w1, w2, w3, w4, fun j hj => (w5 j hj).trans (q5 j hj), fun u u1 u2 u3 => (w6 u (by have := hE1.2.1; omega) ((hE1.2.2.2.1 u u1).2.2.1.mpr u2) u3).trans (q6 u u1 u2 u3), fun j hj => (w7 j hj).trans (q7 j hj), fun j hj hj2 => (w8 j hj hj2).trans (q8 j hj hj2), w9.trans q9, w10.trans q10, by omega⟩
end SC
end mg_a3

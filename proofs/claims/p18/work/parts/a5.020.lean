section mg_b2
section TL
variable {G : mG} {l : Launch} {r : Nat} {b : Int} {pool : Nat → Int} {S : Nat → Option mO} {h0 : mH}
theorem sim_ends {m m' : Nat → Int} {B : Int} {q o k : Nat} {st : Int} {f c : Nat → Int} {C : Nat → Nat → Int} {nm : Nat → Int64} {g : Nat → Option Nat} {h : mH} (hM : Mid m pool B) (hT : TkM m pool q) (hq : (q : Int) < m 3) (hK : TKR m pool c S g q) (hst : 1 ≤ st ∧ st ≤ 3)
    (hR : isR h r b 1 f (updI c (489 + 9 * q) st) C nm g) (hf : f 0 = 200 + (q : Int)) (hSm : Same (rBlk r) h0 h) (hC : CR m pool S c C nm g) (h494 : c (494 + 9 * q) = m (1620 + 72 * q + o)) (hn : m (1619 + 72 * q) = (o : Int) + 1) (hph : psi k m + 600 ≤ 900000) (hO : isOverR (shS G l r b pool S h0 61) q st m m') :
    GOES G l r k h (TNE r pool S h0 b c m' (psi k m + 130)) := by
  have hok := hM.1.1
  have k0 := hok.2.1
  have k1 := hok.2.2.1
  have k3 := hok.2.2.2.2.1
  obtain ⟨a1, a2, a3, a4, a5, a6, ⟨n, a7, a8⟩, a9, a10⟩ := id (hT.2 q hq).1
  obtain rfl : n = o + 1 := by omega
  obtain ⟨-, n, n60, nn, hO⟩ := hO
  obtain rfl : n = o + 1 := by omega
  have um : ∀ j, ¬ j = 1610 + 72 * q → updI m (1610 + 72 * q) st j = m j := fun j w => updI_n w
  have hM1 : Mid (updI m (1610 + 72 * q) st) pool B := hM.out ⟨by omega, by omega⟩ (by omega)
  have y := (CR_tk hC hok (Int.le_refl _) (q0 := q) (v := st) (by omega) ⟨by omega, by omega⟩).1
  have stk1 : stkOk (updI m (1610 + 72 * q) st) q (o + 1) := by
    refine ⟨a8.1, fun j hj => ?_, fun j hj => ?_⟩
    · rw [um _ (by omega), um 0 (by omega)]; exact a8.2.1 j hj
    · have z1 := a8.2.1 (j + 1) hj
      rw [um (1620 + 72 * q + (j + 1)) (by omega), um (1620 + 72 * q + j) (by omega), um _ (by omega)]; exact a8.2.2 j hj
  have ps := psi_out (k := k) (v := st) k0.2 k1.2 (show 1608 ≤ 1610 + 72 * q by omega)
  obtain ⟨kA, -⟩ := hK.2 q hq
  obtain ⟨go, -, es⟩ := sim_over o _ m' k f _ C nm g h ⟨B, hM1⟩ (by rw [um 3 (by omega)]; exact hq) (by rw [updI_s]; omega) stk1 hR hf hSm y (by rw [updI_n (by omega), um _ (by omega), kA.2.2.2.2.1, a6]) (by rw [updI_n (by omega), um _ (by omega)]; exact h494) (by rw [ps]; omega) hO
  refine go.mono (fun k' h' w => ?_)
  obtain ⟨f', c', C', nm', g', x1, x2, x3, ⟨v1, v2, v3, v4⟩, x5⟩ := w
  have fa : ∀ j, 1608 ≤ j → j < 2328 → (∀ t : Nat, j ≠ 1614 + 72 * t) → ¬ j = 1610 + 72 * q → m' j = m j := fun j a d e z => (es.1 j (Or.inr (Or.inr (Or.inr (Or.inr (Or.inr ⟨a, d, e⟩)))))).trans (um j z)
  have T1 : TKR m' pool c' S g' q := by
    refine hK.ch k3.2 hT.nn ((es.1 3 (Or.inr (Or.inl rfl))).trans (um 3 (by omega))) ?_ (fun j a d e z => fa j a d e (by omega)) (fun j a d z => ?_) (fun j a _ => v1 j a) (fun _ => ?_)
    · rw [v3, updI_n (by omega), hK.1]; exact ((es.1 7 (Or.inr (Or.inr (Or.inl rfl)))).trans (um 7 (by omega))).symm
    · rw [v2 j a d (by omega), updI_n (by omega)]
    · exact tkA_c kA (fun j x y z z2 z3 => fa j (by omega) (by omega) (fun t w => by omega) z2) (fun j x y z z2 => by rw [v2 j (by omega) (fun t w => by omega) z, updI_n z2]) (v1 _ (by omega))
  refine ⟨f', c', C', nm', g', x1, x2, x3, T1.fin (fun z => ?_), by rw [v4, updI_n (by omega)], by rw [ps] at x5; omega⟩
  rw [es.1 (1610 + 72 * q) (Or.inr (Or.inr (Or.inr (Or.inr (Or.inr ⟨by omega, by omega, fun t w => by omega⟩))))), updI_s] at z
  omega
end TL
end mg_b2

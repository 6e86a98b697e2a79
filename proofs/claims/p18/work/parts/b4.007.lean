section mg_b6
section BO
variable {G : mG} {l : Launch} {r : Nat} {pool : Nat → Int} {S : Nat → Option mO} {h0 : mH}
theorem both_shut (hS : ∀ a o, S a = some o → hGet h0 a = some o) (hSr : ∀ a, ¬ S a = none → ¬ rBlk r a) {m : Nat → Int} {B T t : Int} (h : All m pool B T) (hP : poolOk pool) (hB : B ≤ 1900000000) (hd : openP m t) :
    ∃ m', shutsR pool (-1) 61 (updI m 5 0) t m' ∧ All m' pool B T ∧ m' 8 = m 8 ∧ ∀ b0 c4 h1, BES r pool S h0 b0 c4 m h1 → RUNM G l 13 mX3_endInCall [.ref r, .int (J (100 + t))] h1 (fun v h' => v = some (.int (J (m' 5))) ∧ ∃ c5, BES r pool S h0 (-1) c5 m' h') := by
  have h5 := h.low (k := 5) (v := 0) (by decide) (Or.inr ⟨rfl, rfl⟩)
  have k1 := h.1.1.1.2.2.1
  have k0 := h.1.1.1.2.1
  have k3 := h.1.1.1.2.2.2.2.1
  have e : ∀ q, ¬ q = 5 → updI m 5 0 q = m q := fun q a => updI_n a
  obtain ⟨u, eu⟩ : ∃ u : Nat, t = u := ⟨t.toNat, by have := hd.1; omega⟩
  subst eu
  obtain ⟨hu1, hu0⟩ := openP_nat.mp hd
  obtain ⟨m', a, b, c, d, -⟩ := simS_all (G := G) (l := l) (b := -1) hS hSr ⟨by decide, by decide⟩ hP 61 _ u B h5.1.1 h5.1.2.1 h5.1.2.2.1 hB (by omega) (by rw [e 0 (by omega)]; exact hu1) (fun c _ hc => h5.1.2.2.2 c hc)
  have hA := h5.es b c d
  refine ⟨m', a.1, hA, (d.1 8 (Or.inr (Or.inr (Or.inr (Or.inl rfl))))).trans (e 8 (by omega)), fun b0 c4 h1 hX => ?_⟩
  obtain ⟨f, cc, C, nm, g, hR, hSm, hC, hK, h4⟩ := hX
  have y := CR_call hC h.1.1.1
  have y2 := CR_scb y h5.1.1.1 (Int.le_refl _) (a := u) (by rw [e 0 (by omega)]; exact hu1) (by rw [e _ (by omega)]; exact hu0)
  obtain ⟨n0, -, -, -, -, -, -, -, hc, -⟩ := id hC
  have p0 := psi_0 h5.1.1.1 h5.1.2.2.1
  have P := cr_endScopeE (G := G) (l := l) 9 hR hc (hc 11) (u := u) (by rw [n0.2.1]; exact hu1) (by omega) (X := fun f' c' C' nm' g' => CR m' pool S c' C' nm' g' ∧ TKR m' pool c' S g' 99) (fun h2 hR2 hS2 => by
    have go := a.2.1 u rfl (by rw [e 0 (by omega)]; exact hu1) (by rw [e _ (by omega)]; exact hu0) 0 0 _ _ C nm _ h2 hR2 updI_s (hSm.trans hS2) y2 (by omega) (by omega)
    refine go_wk go (fun k' h' w => ?_)
    obtain ⟨f', c', C', nm', g', x1, x2, x3, x4, x5, x6⟩ := w
    refine ⟨psi_k hA.1.1.1 hA.1.2.2.1 x6 (by split <;> omega), _, _, _, _, _, _, x1, fun h'' z1 z2 => ?_⟩
    obtain ⟨F, w⟩ := x3.fa hA.1.1.1
    obtain ⟨v2, v3, v4, v5⟩ := x5
    refine ⟨f', c', C', nm', g', F, ⟨z1, ((hSm.trans hS2).join x2).trans z2⟩, w, x3, hK.kq k3.2 h.2.1.nn (fun j hj => v2 j hj) (fun j hj hj2 => ?_) ?_ ?_ ?_ (fun j a b d' => ?_)⟩
    · rw [v3 j hj hj2, updI_n (by omega), updI_n (by omega)]
    · rw [v4, updI_n (by omega), updI_n (by omega)]
    · rw [d.1 3 (Or.inr (Or.inl rfl)), e 3 (by omega)]
    · rw [d.1 7 (Or.inr (Or.inr (Or.inl rfl))), e 7 (by omega)]
    · rw [d.1 j (Or.inr (Or.inr (Or.inr (Or.inr (Or.inr ⟨a, b, d'⟩))))), e j (by omega)])
  refine P.mono (fun v h' w => ?_)
  obtain ⟨f', c', C', nm', g', F, w1, w2, w3, w4, w5, w6⟩ := w
  exact ⟨by rw [w1, fcF_call w5 w4], _, f', c', C', nm', g', w2, hSm.trans w3, w5, w6, rfl⟩
end BO
end mg_b6

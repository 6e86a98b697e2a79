section mg_b6
section BO
variable {G : mG} {l : Launch} {r : Nat} {pool : Nat → Int} {S : Nat → Option mO} {h0 : mH}
theorem both_close (hS : ∀ a o, S a = some o → hGet h0 a = some o) (hSr : ∀ a, ¬ S a = none → ¬ rBlk r a) {m : Nat → Int} {B T t : Int} (h : All m pool B T) (hP : poolOk pool) (hB : B ≤ 1900000000) (hd : closeDo m t) :
    ∃ m', closesR pool (-1) 91 (updI m 5 0) t.toNat m' ∧ All m' pool B T ∧ m' 8 = m 8 ∧ ∀ b0 c4 h1, BES r pool S h0 b0 c4 m h1 → RUNM G l 13 mX3_endInCall [.ref r, .int (J t)] h1 (fun v h' => v = some (.int (J (m' 5))) ∧ ∃ c5, BES r pool S h0 (-1) c5 m' h') := by
  have h5 := h.low (k := 5) (v := 0) (by decide) (Or.inr ⟨rfl, rfl⟩)
  have k1 := h.1.1.1.2.2.1
  have k0 := h.1.1.1.2.1
  have k3 := h.1.1.1.2.2.2.2.1
  have e : ∀ q, ¬ q = 5 → updI m 5 0 q = m q := fun q a => updI_n a
  have nc : cnt (cngB (updI m 5 0)) (updI m 5 0 1).toNat = 0 := h5.1.2.2.1.cnt (by rw [e 1 (by omega)]; exact k1.1)
  obtain ⟨u, eu⟩ : ∃ u : Nat, t = u := ⟨t.toNat, by have := hd.1; omega⟩
  subst eu
  have hu1 : (u : Int) < m 1 := by have := hd.1; omega
  have hu0 : m (258 + 14 * u) = 0 := by rw [← hd.2]; congr 1
  rw [show ((u : Int)).toNat = u by omega]
  obtain ⟨m', a, b, c, -, -⟩ := simC_all (G := G) (l := l) (b := -1) hS hSr ⟨by decide, by decide⟩ hP 91 _ u B h5.1.1 (by omega) (by rw [nc]; omega) (by rw [e 1 (by omega)]; omega) (by rw [e _ (by omega)]; exact hu0)
  have hA := h5.es b (c.sc h5.1.2.1 (by rw [e 0 (by omega)]; omega)) c.es
  refine ⟨m', a.1, hA, (c.1 8 (by unfold far; omega)).trans (e 8 (by omega)), fun b0 c4 h1 hX => ?_⟩
  obtain ⟨f, cc, C, nm, g, hR, hSm, hC, hK, h4⟩ := hX
  have y := CR_call hC h.1.1.1
  have y2 := CR_cng y h5.1.1.1 (Int.le_refl _) (t := u) (by rw [e 1 (by omega)]; exact hu1) (by rw [e _ (by omega)]; exact hu0)
  obtain ⟨n0, -, -, -, -, -, -, -, hc, -⟩ := id hC
  have P := cr_endThingE (G := G) (l := l) 9 hR hc (hc 11) (t := u) (by rw [n0.1]; exact hu1) (by omega) (X := fun f' c' C' nm' g' => CR m' pool S c' C' nm' g' ∧ TKR m' pool c' S g' 99) (fun h2 hR2 hS2 => by
    have sr : SR (updI m 5 0) := fun a ha => (h5.1.2.1.2.2 a ha).1
    have go := a.2.1 sr 0 0 _ _ C nm _ h2 hR2 updI_s (hSm.trans hS2) y2 (by unfold btG; rw [updO_s, updO_n (by omega)]) (by rw [nc]; decide) (by
      have p0 := psi_0 h5.1.1.1 h5.1.2.2.1
      have co := cnt_r (openB (updI m 5 0)) (updI m 5 0 0).toNat
      have k2 := h5.1.1.1.2.2.2.1
      unfold psi at p0
      omega)
    refine go_wk go (fun k' h' w => ?_)
    obtain ⟨f', c', C', nm', g', x1, x2, x3, x4, x5, x6⟩ := w
    refine ⟨?_, _, _, _, _, _, _, x1, fun h'' z1 z2 => ?_⟩
    · have co := cnt_r (openB m') (m' 0).toNat
      have cm := hA.1.2.2.1.cnt hA.1.1.1.2.2.1.1
      have k2 := hA.1.1.1.2.2.2.1
      have k2' := h5.1.1.1.2.2.2.1
      unfold phi at x6
      rw [cm, nc] at x6
      omega
    · obtain ⟨F, w⟩ := x3.fa hA.1.1.1
      obtain ⟨-, v2, v3, v4, v5⟩ := x5
      refine ⟨f', c', C', nm', g', F, ⟨z1, ((hSm.trans hS2).join x2).trans z2⟩, w, x3, hK.kq k3.2 h.2.1.nn (fun j hj => ?_) (fun j hj hj2 => ?_) ?_ ?_ ?_ (fun j a b d => ?_)⟩
      · rw [v2 j hj]; unfold btG; exact updO_n (by omega)
      · rw [v3 j hj hj2, updI_n (by omega), updI_n (by omega)]
      · rw [v4, updI_n (by omega), updI_n (by omega)]
      · rw [c.1 3 (by unfold far; omega), e 3 (by omega)]
      · rw [c.1 7 (by unfold far; omega), e 7 (by omega)]
      · rw [c.1 j (fat_far (Or.inr (Or.inr (Or.inr (Or.inr (Or.inr ⟨a, b, d⟩)))))), e j (by omega)])
  refine P.mono (fun v h' w => ?_)
  obtain ⟨f', c', C', nm', g', F, w1, w2, w3, w4, w5, w6⟩ := w
  exact ⟨by rw [w1, fcF_call w5 w4], _, f', c', C', nm', g', w2, hSm.trans w3, w5, w6, rfl⟩
end BO
end mg_b6

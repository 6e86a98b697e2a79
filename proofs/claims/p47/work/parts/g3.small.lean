/-! ===== calls that change a little, on both ===== -/
section G3
variable {sg : Bool} {x y n : Nat} {h h1 : mH} {f4 : Int} {m kpm pool : Nat → Int} {zt : Int} {ft : Nat → Int} {f18 : Int} {pap rwd rw : Nat → Int}
theorem CP.of {S : Nat → Option mO} {kp tk : Option Nat} {zr : Nat → Int} {fr : Nat → Nat → Int} {p e o zs : Int} {fs : Nat → Int} {b : Int} {fa c : Nat → Int} {C : Nat → Nat → Int} {nm : Nat → Int64} {g : Nat → Option Nat} (hxy : x + 196 ≤ y ∧ y ≤ h.2.1) (hS : Same (kBlk x) h h1) (hK : isK h1 x kp tk zr fr p e o zt ft zs fs b 0 fa c C nm g) (hT : CTR m pool S c C nm g) (hst : stR y h S) (hke : keR y h S kp f4 kpm pool) (htk : tkR y h S kp tk) (hro : roR zr fr rwd rw) (hpa : paR sg zs fs f18 pap) : CP sg x y f4 m kpm pool zt ft f18 pap rwd rw h h1 := by
  have e1 := hS.2.1
  have e2 := hS.2.2.1
  exact ⟨⟨S, kp, tk, zr, fr, p, e, o, zs, fs, b, fa, c, C, nm, g, hK, ⟨hT, hst.kp (Old.of hS) (fun b hb => Or.inl (by unfold kBlk at hb; omega)), hke.kp (Old.of hS) (fun b w e hb => by have := hke.lo e; unfold wBlk at hb; unfold kBlk; omega), htk.kp (Old.of hS) (fun b r e hb => by have := htk.lo e; unfold rBlk at hb; unfold kBlk; omega)⟩, hro, hpa, by omega, by omega⟩, ⟨hS.1, fun b hb => hS.2.2.2 b (by unfold eBlk at hb; unfold kBlk; omega)⟩, by omega, by omega⟩
theorem SO.mm {m' : Nat → Int} (k : SO n f4 m kpm pool zt ft f18 rwd rw) (hA : All m' pool (12000 * (n + 1 : Nat)) (100 * (n + 1 : Nat))) (h8 : m' 8 = m 8) : SO (n + 1) f4 m' kpm pool zt ft f18 rwd rw := by
  obtain ⟨⟨u1, u2⟩, ⟨u3, u4⟩, u5⟩ := k.up
  exact ⟨⟨hA, u2⟩, ⟨u3, fun e => ⟨(u4 e).1, by rw [h8]; exact (u4 e).2⟩⟩, u5⟩
theorem SO.rows {rwd' rw' : Nat → Int} (k : SO n f4 m kpm pool zt ft f18 rwd rw) (hr : (∀ q, InR (rwd' q) ∧ rwd' q ≤ 40) ∧ ∀ q, InR (rw' q)) : SO (n + 1) f4 m kpm pool zt ft f18 rwd' rw' := by
  obtain ⟨u1, u2, u3, u4, -⟩ := k.up
  exact ⟨u1, u2, u3, u4, hr⟩
theorem SO.tape {zt' : Int} {ft' : Nat → Int} (k : SO n f4 m kpm pool zt ft f18 rwd rw) (ht : (0 ≤ zt' ∧ zt' ≤ 120) ∧ bytesOk ft' ∧ ∀ j : Nat, (j : Int) < zt' → 1 ≤ ft' j) : SO (n + 1) f4 m kpm pool zt' ft' f18 rwd rw := by
  obtain ⟨u1, u2, -, u4, u5⟩ := k.up
  exact ⟨u1, u2, ht, u4, u5⟩
theorem roR.put {zr : Nat → Int} {fr : Nat → Nat → Int} {rwd' rw' : Nat → Int} {a : Nat} {z : Int} {f : Nat → Int} (k : roR zr fr rwd rw) (hz : InR z ∧ z ≤ 40) (hf : ∀ q, InR (f q)) (h0 : ∀ q, ¬ q = a → q < 4 → rwd' q = rwd q ∧ ∀ j : Nat, j < 40 → rw' (40 * q + j) = rw (40 * q + j)) (ha : (z = -11 ∧ rwd' a = -1) ∨ (0 ≤ z ∧ z = rwd' a ∧ ∀ j : Nat, (j : Int) < z → f j = rw' (40 * a + j))) : roR (updI zr a z) (updC fr a f) rwd' rw' := by
  refine ⟨⟨fun q => ?_, fun j q => ?_⟩, fun q hq => ?_⟩
  · unfold updI; split
    · exact hz
    · exact k.1.1 q
  · unfold updC; split
    · exact hf q
    · exact k.1.2 j q
  · by_cases e : q = a
    · subst e; rw [updI_s, updC_s]; exact ha
    · rw [updI_n e, updC_n e, (h0 q e hq).1]
      rcases k.2 q hq with r | ⟨r1, r2, r3⟩
      · exact Or.inl r
      · have := (k.1.1 q).2
        exact Or.inr ⟨r1, r2, fun j hj => (r3 j hj).trans ((h0 q e hq).2 j (by omega)).symm⟩
theorem inR_up {f : Nat → Int} (h : ∀ q, InR (f q)) {a : Nat} {v : Int} (hv : InR v) : ∀ q, InR (updI f a v q) := updI_r h hv
end G3
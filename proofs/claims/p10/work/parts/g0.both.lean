/-! ===== a keeper and a model that stand for one state ===== -/
/-- the rows of both -/
def roR (zr : Nat → Int) (fr : Nat → Nat → Int) (rwd rw : Nat → Int) : Prop := ((∀ q, InR (zr q) ∧ zr q ≤ 40) ∧ ∀ k q, InR (fr k q)) ∧ ∀ a : Nat, a < 4 → (zr a = -11 ∧ rwd a = -1) ∨ (0 ≤ zr a ∧ zr a = rwd a ∧ ∀ k : Nat, (k : Int) < zr a → fr a k = rw (40 * a + k))
/-- the sheets of both -/
def paR (sg : Bool) (zs : Int) (fs : Nat → Int) (f18 : Int) (pap : Nat → Int) : Prop := (0 ≤ zs ∧ zs ≤ 120) ∧ (sg = true → zs = f18 ∧ ∀ q : Nat, (q : Int) < zs → fs q = pap q)
/-- steps that were read lie behind both -/
def stR (y : Nat) (h : mH) (S : Nat → Option mO) : Prop := ∀ a o, S a = some o → hGet h a = some o ∧ y + 10 ≤ a ∧ a < h.2.1
def keR (y : Nat) (h : mH) (S : Nat → Option mO) (kp : Option Nat) (f4 : Int) (kpm pool : Nat → Int) : Prop := (kp = none ∧ f4 = 0) ∨ ∃ (w : Nat) (c : Nat → Int) (C : Nat → Nat → Int) (nm : Nat → Int64) (g : Nat → Option Nat), (kp = some w ∧ f4 = 1) ∧ (y + 10 ≤ w ∧ w + 177 ≤ h.2.1) ∧ (∀ a, wBlk w a → S a = none) ∧ isW h w c C nm g ∧ CTR kpm pool S c C nm g
def tkR (y : Nat) (h : mH) (S : Nat → Option mO) (kp tk : Option Nat) : Prop := tk = none ∨ ∃ (r : Nat) (b : Int) (f c : Nat → Int) (C : Nat → Nat → Int) (nm : Nat → Int64) (g : Nat → Option Nat), tk = some r ∧ (y + 10 ≤ r ∧ r + 180 ≤ h.2.1) ∧ (∀ a, rBlk r a → S a = none) ∧ (∀ w, kp = some w → w + 177 ≤ r ∨ r + 180 ≤ w) ∧ isR h r b 0 f c C nm g ∧ ((∀ q, InR (c q)) ∧ ∀ k q, InR (C k q))
/-- the class stands for a state -/
def CH (sg : Bool) (x y : Nat) (f4 : Int) (m kpm pool : Nat → Int) (zt : Int) (ft : Nat → Int) (f18 : Int) (pap rwd rw : Nat → Int) (h : mH) : Prop :=
  ∃ (S : Nat → Option mO) (kp tk : Option Nat) (zr : Nat → Int) (fr : Nat → Nat → Int) (p e o zs : Int) (fs : Nat → Int) (b : Int) (fa c : Nat → Int) (C : Nat → Nat → Int) (nm : Nat → Int64) (g : Nat → Option Nat),
    isK h x kp tk zr fr p e o zt ft zs fs b 0 fa c C nm g ∧ (CTR m pool S c C nm g ∧ stR y h S ∧ keR y h S kp f4 kpm pool ∧ tkR y h S kp tk) ∧ roR zr fr rwd rw ∧ paR sg zs fs f18 pap ∧ (x + 196 ≤ y ∧ y + 10 ≤ h.2.1)
/-- the model stands for it -/
def MH (y : Nat) (f4 : Int) (m kpm pool : Nat → Int) (zt : Int) (ft : Nat → Int) (f18 : Int) (pap rwd rw : Nat → Int) (h : mH) : Prop :=
  ∃ (f14 f16 : Int) (was pln : Nat → Int), InR f14 ∧ isMs h y f4 zt f14 f16 f18 m kpm was pool ft pln pap rwd rw
/-- a state is in order, behind n calls -/
def SO (n : Nat) (f4 : Int) (m kpm pool : Nat → Int) (zt : Int) (ft : Nat → Int) (f18 : Int) (rwd rw : Nat → Int) : Prop :=
  (All m pool (12000 * n) (100 * n) ∧ poolOk pool) ∧ (((f4 = 0 ∧ mOk kpm) ∨ f4 = 1) ∧ (f4 = 1 → All kpm pool (12000 * n) (100 * n) ∧ kpm 8 ≤ m 8)) ∧ ((0 ≤ zt ∧ zt ≤ 120) ∧ bytesOk ft ∧ ∀ j : Nat, (j : Int) < zt → 1 ≤ ft j) ∧ (0 ≤ f18 ∧ f18 ≤ 120) ∧ ((∀ q, InR (rwd q) ∧ rwd q ≤ 40) ∧ ∀ q, InR (rw q))
/-- a heap's sizes behind n calls -/
def SZ (y n : Nat) (h : mH) : Prop := h.2.1 ≤ y + 10 + 400 * n ∧ h.2.2.1 ≤ 100000 + 6000 * n
def RI (sg : Bool) (x y n : Nat) (h : mH) : Prop := ∃ (f4 : Int) (m kpm pool : Nat → Int) (zt : Int) (ft : Nat → Int) (f18 : Int) (pap rwd rw : Nat → Int), CH sg x y f4 m kpm pool zt ft f18 pap rwd rw h ∧ MH y f4 m kpm pool zt ft f18 pap rwd rw h ∧ SO n f4 m kpm pool zt ft f18 rwd rw ∧ SZ y n h
section G0
variable {sg : Bool} {G : mG} {l : Launch} {D : Nat} {x y n : Nat} {h h1 h' : mH} {f4 : Int} {m kpm pool : Nat → Int} {zt : Int} {ft : Nat → Int} {f18 : Int} {pap rwd rw : Nat → Int}
theorem isMs.kp {f14 f16 : Int} {was pln : Nat → Int} (k : isMs h y f4 zt f14 f16 f18 m kpm was pool ft pln pap rwd rw) (e : h'.1 = h.1) (s : ∀ b, mBlk y b → hGet h' b = hGet h b) : isMs h' y f4 zt f14 f16 f18 m kpm was pool ft pln pap rwd rw := by
  obtain ⟨f8, f9, f10, f11, f12, f13, s0, k0, k1, k2, k3, k4, k5, k6, k7, k8, k9, ka, kb⟩ := k
  refine ⟨f8, f9, f10, f11, f12, f13, s0, k0, by rw [e]; exact k1, ?_, ?_, ?_, ?_, ?_, ?_, ?_, ?_, ?_, ?_⟩
  · exact (s _ (by unfold mBlk; omega)).trans k2
  · exact (s _ (by unfold mBlk mAd; omega)).trans k3
  · exact (s _ (by unfold mBlk mAd; omega)).trans k4
  · exact (s _ (by unfold mBlk mAd; omega)).trans k5
  · exact (s _ (by unfold mBlk mAd; omega)).trans k6
  · exact (s _ (by unfold mBlk mAd; omega)).trans k7
  · exact (s _ (by unfold mBlk mAd; omega)).trans k8
  · exact (s _ (by unfold mBlk mAd; omega)).trans k9
  · exact (s _ (by unfold mBlk mAd; omega)).trans ka
  · exact (s _ (by unfold mBlk mAd; omega)).trans kb
theorem MH.kp (k : MH y f4 m kpm pool zt ft f18 pap rwd rw h) (e : h'.1 = h.1) (s : ∀ b, mBlk y b → hGet h' b = hGet h b) : MH y f4 m kpm pool zt ft f18 pap rwd rw h' := by
  obtain ⟨a, b, c, d, e1, e2⟩ := k
  exact ⟨a, b, c, d, e1, e2.kp e s⟩
/-- older cells that lie outside of a block are as they were -/
def Old (P : Nat → Prop) (h h' : mH) : Prop := h'.1 = h.1 ∧ h.2.1 ≤ h'.2.1 ∧ ∀ b, b < h.2.1 → ¬ P b → hGet h' b = hGet h b
theorem Old.of {P : Nat → Prop} (s : Same P h h') : Old P h h' := ⟨s.1, by have := s.2.1; omega, fun b _ hb => s.2.2.2 b hb⟩
theorem Old.mono {P P' : Nat → Prop} (s : Old P h h') (f : ∀ b, P b → P' b) : Old P' h h' := ⟨s.1, s.2.1, fun b hb hn => s.2.2 b hb (fun q => hn (f b q))⟩
theorem Old.tr {P : Nat → Prop} {h2 : mH} (s : Old P h h1) (t : Old P h1 h2) : Old P h h2 := ⟨t.1.trans s.1, Nat.le_trans s.2.1 t.2.1, fun b hb hn => (t.2.2 b (Nat.lt_of_lt_of_le hb s.2.1) hn).trans (s.2.2 b hb hn)⟩
theorem Old.rf {P : Nat → Prop} : Old P h h := ⟨rfl, Nat.le_refl _, fun _ _ _ => rfl⟩
theorem isK.kp {kp tk : Option Nat} {zr : Nat → Int} {fr : Nat → Nat → Int} {p e o zs : Int} {fs : Nat → Int} {b za : Int} {fa c : Nat → Int} {C : Nat → Nat → Int} {nm : Nat → Int64} {g : Nat → Option Nat} (k : isK h x kp tk zr fr p e o zt ft zs fs b za fa c C nm g) (e1 : h'.1 = h.1) (s : ∀ q, kBlk x q → hGet h' q = hGet h q) : isK h' x kp tk zr fr p e o zt ft zs fs b za fa c C nm g :=
  k.ofX e1 ((s x (by unfold kBlk; omega)).trans k.gx) (fun q hq _ => s q hq)
theorem stR.kp {S : Nat → Option mO} {P : Nat → Prop} (k : stR y h S) (o : Old P h h') (hP : ∀ b, P b → b < y + 10 ∨ S b = none) : stR y h' S := by
  intro a ob ha
  obtain ⟨k1, k2, k3⟩ := k a ob ha
  have := o.2.1
  refine ⟨(o.2.2 a k3 (fun q => ?_)).trans k1, k2, by omega⟩
  rcases hP a q with z | z
  · omega
  · rw [ha] at z; cases z
theorem keR.kp {S : Nat → Option mO} {kp : Option Nat} {P : Nat → Prop} (k : keR y h S kp f4 kpm pool) (o : Old P h h') (hP : ∀ b w, kp = some w → wBlk w b → ¬ P b) : keR y h' S kp f4 kpm pool := by
  rcases k with k | ⟨w, c, C, nm, g, ⟨k1, k2⟩, ⟨k3, k4⟩, k5, k6, k7⟩
  · exact Or.inl k
  · have := o.2.1
    exact Or.inr ⟨w, c, C, nm, g, ⟨k1, k2⟩, ⟨k3, by omega⟩, k5, k6.keep2 o.1 (fun b hb => o.2.2 b (by unfold wBlk at hb; omega) (hP b w k1 hb)), k7⟩
theorem tkR.kp {S : Nat → Option mO} {kp tk : Option Nat} {P : Nat → Prop} (k : tkR y h S kp tk) (o : Old P h h') (hP : ∀ b r, tk = some r → rBlk r b → ¬ P b) : tkR y h' S kp tk := by
  rcases k with k | ⟨r, b, f, c, C, nm, g, k1, ⟨k3, k4⟩, k5, k6, k7, k8⟩
  · exact Or.inl k
  · have := o.2.1
    exact Or.inr ⟨r, b, f, c, C, nm, g, k1, ⟨k3, by omega⟩, k5, k6, k7.keep2 o.1 (fun q hq => o.2.2 q (by unfold rBlk at hq; omega) (hP q r k1 hq)), k8⟩
theorem keR.lo {S : Nat → Option mO} {kp : Option Nat} (k : keR y h S kp f4 kpm pool) {w : Nat} (e : kp = some w) : y + 10 ≤ w := by
  rcases k with ⟨k, -⟩ | ⟨w', c, C, nm, g, ⟨k1, k2⟩, ⟨k3, k4⟩, k5, k6, k7⟩
  · rw [k] at e; cases e
  · rw [k1] at e; cases e; exact k3
theorem tkR.lo {S : Nat → Option mO} {kp tk : Option Nat} (k : tkR y h S kp tk) {r : Nat} (e : tk = some r) : y + 10 ≤ r := by
  rcases k with k | ⟨r', b, f, c, C, nm, g, k1, ⟨k3, k4⟩, k5, k6, k7, k8⟩
  · rw [k] at e; cases e
  · rw [k1] at e; cases e; exact k3
/-- the model's own changes leave the class alone -/
theorem CH.kp (k : CH sg x y f4 m kpm pool zt ft f18 pap rwd rw h) (o : Old (mBlk y) h h') : CH sg x y f4 m kpm pool zt ft f18 pap rwd rw h' := by
  obtain ⟨S, kp, tk, zr, fr, p, e, o', zs, fs, b, fa, c, C, nm, g, k1, ⟨k2, k3, k4, k5⟩, k6, k7, k8⟩ := k
  have := o.2.1
  exact ⟨S, kp, tk, zr, fr, p, e, o', zs, fs, b, fa, c, C, nm, g, k1.kp o.1 (fun q hq => o.2.2 q (by unfold kBlk at hq; omega) (by unfold kBlk at hq; unfold mBlk; omega)), ⟨k2, k3.kp o (fun b hb => Or.inl (by unfold mBlk at hb; omega)), k4.kp o (fun b w e hb => by have := k4.lo e; unfold wBlk at hb; unfold mBlk; omega), k5.kp o (fun b r e hb => by have := k5.lo e; unfold rBlk at hb; unfold mBlk; omega)⟩, k6, k7, by omega, by omega⟩
theorem CH.xy (k : CH sg x y f4 m kpm pool zt ft f18 pap rwd rw h) : x + 196 ≤ y := by
  obtain ⟨S, kp, tk, zr, fr, p, e, o', zs, fs, b, fa, c, C, nm, g, k1, k2, k6, k7, k8⟩ := k
  exact k8.1
/-- what the class's side of a call has to show -/
def CP (sg : Bool) (x y : Nat) (f4 : Int) (m kpm pool : Nat → Int) (zt : Int) (ft : Nat → Int) (f18 : Int) (pap rwd rw : Nat → Int) (h h1 : mH) : Prop := CH sg x y f4 m kpm pool zt ft f18 pap rwd rw h1 ∧ (h1.1 = h.1 ∧ ∀ b, mBlk y b ∨ b < x → hGet h1 b = hGet h b) ∧ h1.2.1 ≤ h.2.1 + 400 ∧ h1.2.2.1 ≤ h.2.2.1 + 6000
theorem CP.rf (k : CH sg x y f4 m kpm pool zt ft f18 pap rwd rw h) : CP sg x y f4 m kpm pool zt ft f18 pap rwd rw h h := ⟨k, ⟨rfl, fun _ _ => rfl⟩, by omega, by omega⟩
/-- between both calls -/
def MDL (x y : Nat) (h h1 : mH) : Prop := h1.1 = h.1 ∧ (∀ q, q < x → hGet h1 q = hGet h q) ∧ ∃ fs, hGet h1 y = some (.inl (11, fs))
theorem MDL.of (e : h1.1 = h.1) (s : ∀ b, mBlk y b ∨ b < x → hGet h1 b = hGet h b) (k : MH y f4 m kpm pool zt ft f18 pap rwd rw h) : MDL x y h h1 := by
  obtain ⟨f14, f16, was, pln, r14, f8, f9, f10, f11, f12, f13, s0, r11, hB⟩ := k
  exact ⟨e, fun q hq => s q (Or.inr hq), _, (s y (Or.inl (by unfold mBlk; omega))).trans hB.gx⟩
theorem MDL.rf (k : MH y f4 m kpm pool zt ft f18 pap rwd rw h) : MDL x y h h := MDL.of rfl (fun _ _ => rfl) k
def isZ : Bool → Value → Prop
  | true, z => ∃ w, z = .long w
  | false, z => ∃ w, z = .int w
/-- one call on both -/
def TWO (sg : Bool) (G : mG) (l : Launch) (x y n : Nat) (lg : Bool) (Mc Mm : mM) (args : List Value) (h : mH) : Prop := ∃ z : Value, isZ lg z ∧ RUNM G l 1000 Mc (.ref x :: args) h (fun v h1 => v = some z ∧ MDL x y h h1 ∧ RUNM G l 1000 Mm (.ref y :: args) h1 (fun v h2 => v = some z ∧ RI sg x y (n + 1) h2 ∧ h2.1 = h.1 ∧ ∀ q, q < x → hGet h2 q = hGet h q))
theorem SO.up (k : SO n f4 m kpm pool zt ft f18 rwd rw) : SO (n + 1) f4 m kpm pool zt ft f18 rwd rw := by
  obtain ⟨⟨k1, k2⟩, ⟨k3, k4⟩, k5⟩ := k
  exact ⟨⟨k1.up (by omega) (by omega), k2⟩, ⟨k3, fun e => ⟨(k4 e).1.up (by omega) (by omega), (k4 e).2⟩⟩, k5⟩
theorem TWO.of {Mc Mm : mM} {args : List Value} {z : Value} {dc dm : Nat} (hdc : dc ≤ 1000) (hdm : dm ≤ 1000) {lg : Bool} (hk : isZ lg z) {f4' : Int} {m' kpm' pool' : Nat → Int} {zt' : Int} {ft' : Nat → Int} {f18' : Int} {pap' rwd' rw' : Nat → Int} (hz : SZ y n h) (hM : MH y f4 m kpm pool zt ft f18 pap rwd rw h)
    (hc : RUNM G l dc Mc (.ref x :: args) h (fun v h1 => v = some z ∧ CP sg x y f4' m' kpm' pool' zt' ft' f18' pap' rwd' rw' h h1))
    (hm : ∀ h1, MH y f4 m kpm pool zt ft f18 pap rwd rw h1 → RUNM G l dm Mm (.ref y :: args) h1 (fun v h2 => v = some z ∧ MH y f4' m' kpm' pool' zt' ft' f18' pap' rwd' rw' h2 ∧ Same (mBlk y) h1 h2))
    (hs : SO (n + 1) f4' m' kpm' pool' zt' ft' f18' rwd' rw') : TWO sg G l x y n lg Mc Mm args h := by
  refine ⟨z, hk, (hc.deeper hdc).mono (fun v h1 q => ⟨q.1, ?_⟩)⟩
  obtain ⟨q1, q2, ⟨q3, q4⟩, q5, q6⟩ := q
  refine ⟨MDL.of q3 q4 hM, ((hm h1 (hM.kp q3 (fun b hb => q4 b (Or.inl hb)))).deeper hdm).mono (fun v2 h2 r => ⟨r.1, ?_⟩)⟩
  obtain ⟨r1, r2, r3⟩ := r
  have e1 := r3.2.1
  have e2 := r3.2.2.1
  obtain ⟨z1, z2⟩ := hz
  have xy := q2.xy
  exact ⟨⟨f4', m', kpm', pool', zt', ft', f18', pap', rwd', rw', q2.kp (Old.of r3), r2, hs, by omega, by omega⟩, r3.1.trans q3, fun q hq => (r3.2.2.2 q (by unfold mBlk; omega)).trans (q4 q (Or.inr hq))⟩
end G0

/-! ===== would, trial on both ===== -/
theorem both_ticks3 {G : mG} {l : Launch} {r : Nat} {pool : Nat → Int} {S : Nat → Option mO} {h0 : mH} (hS : ∀ a o, S a = some o → hGet h0 a = some o) (hSr : ∀ a, ¬ S a = none → ¬ rBlk r a) (hPo : poolOk pool) {m : Nat → Int} {B T : Int} {n : Nat} (h : All m pool B T) (hn : n ≤ 100) (hB : B ≤ 1000000000) (hT : T ≤ 900000000) :
    ∃ (k : Nat) (m' : Nat → Int), ticksR pool n m k m' ∧ k ≤ n ∧ All m' pool (B + 12000) (T + 100) ∧ m' 3 = m 3 ∧ ∀ b0 c4 h1, BES r pool S h0 b0 c4 m h1 → RUNM G l 13 mX3_tickUpTo [.ref r, .int (J (n : Int))] h1 (fun v h' => v = some (.int (J (k : Int))) ∧ ∃ b, BES r pool S h0 b c4 m' h') := by
  obtain ⟨h1, h2, h3, h4⟩ := id h
  obtain ⟨k, s, s0, t1, t2, t3, t4, t5, t6, t7, t8, t9, t10⟩ := both_tickL (G := G) (l := l) hS hSr hPo n m B h1 h2 (by omega) (by omega)
  refine ⟨k, s k, t1, t2, ⟨t3.up (by omega), t4, by omega, by omega⟩, t5, fun b0 c4 hh hX => ?_⟩
  refine cr_tickUpTo (G := G) (l := l) 12 (T := fun i h' => ∃ b, BES r pool S h0 b c4 (s i) h') (N := k) (M := (n : Int)) ⟨by omega, by omega⟩ (fun i h' w => ?_) (fun i h' hi w => ?_) ?_ ?_
  · obtain ⟨b, w⟩ := w
    exact w.o3
  · obtain ⟨b, w⟩ := w
    obtain ⟨q, hq, R1, r1, r2, r3⟩ := t9 i hi b c4 h' w
    exact ⟨(q : Int), R1, ⟨by omega, by omega⟩, by omega, r1, r2, fun h'' w => (r3 h'' w).mono (fun _ x => ⟨_, x⟩)⟩
  · rcases t10 with t10 | t10
    · exact Or.inl (by omega)
    · refine Or.inr (fun h' w => ?_)
      obtain ⟨b, w⟩ := w
      exact t10 b c4 h' w
  · exact ⟨b0, by show BES r pool S h0 b0 c4 (s 0) hh; rw [s0]; exact hX⟩
/-- one that thinks stands ready, all as it is now -/
def THK (x y : Nat) (h : mH) (S : Nat → Option mO) (kp : Option Nat) (f4 : Int) (m kpm pool : Nat → Int) (r2 : Nat) (h1 : mH) : Prop :=
  (∃ (b : Int) (f c : Nat → Int) (C : Nat → Nat → Int) (nm : Nat → Int64) (g : Nat → Option Nat), isR h1 r2 b 0 f c C nm g ∧ CTR m pool S c C nm g) ∧ (y ≤ r2 ∧ r2 + 180 ≤ h1.2.1) ∧ (∀ a, rBlk r2 a → S a = none) ∧ (∀ w, kp = some w → w + 177 ≤ r2 ∨ r2 + 180 ≤ w) ∧ stR y h1 S ∧ keR y h1 S kp f4 kpm pool ∧ (h1.1 = h.1 ∧ ∀ b, eBlk y b ∨ b < x → hGet h1 b = hGet h b) ∧ h1.2.1 ≤ h.2.1 + 200 ∧ h1.2.2.1 ≤ h.2.2.1 + 5000
theorem think_both {G : mG} {l : Launch} (hG : G.2.map Prod.snd = mTy) {x y : Nat} {h : mH} {S : Nat → Option mO} {kp tk : Option Nat} {zr : Nat → Int} {fr : Nat → Nat → Int} {p e o zt : Int} {ft : Nat → Int} {zs : Int} {fs : Nat → Int} {b : Int} {fa : Nat → Int} {c : Nat → Int} {C : Nat → Nat → Int} {nm : Nat → Int64} {g : Nat → Option Nat} {f4 : Int} {m kpm pool : Nat → Int} (hK : isK h x kp tk zr fr p e o zt ft zs fs b 0 fa c C nm g) (hT : CTR m pool S c C nm g) (hst : stR y h S) (hke : keR y h S kp f4 kpm pool) (htk : tkR y h S kp tk) (hxy : x + 196 ≤ y ∧ y ≤ h.2.1) (hok : mOk m) (hTk : TkM m pool 99) :
    ∃ r2 h1, RUNM G l 30 mX10_thinkerOfNow [.ref x] h (fun v h' => v = some (.ref r2) ∧ h' = h1) ∧ isK h1 x kp (some r2) zr fr p e o zt ft zs fs b 0 fa c C nm g ∧ THK x y h S kp f4 m kpm pool r2 h1 := by
  obtain ⟨hc, hC⟩ := ctr_r hT
  rcases id htk with rfl | ⟨r2, b2, f2, c2, C2, nm2, g2, rfl, ⟨t1, t2⟩, t3, t4, t5, t6⟩
  · have P := kg_thinkN (G := G) (l := l) 16 hK hc hC hG (by omega) (R := fun h' => ∃ h1, isR h1 h.2.1 0 0 w0 wc0 wC0 wn0 wg0 ∧ isK h1 x kp (some h.2.1) zr fr p e o zt ft zs fs b 0 fa c C nm g ∧ (h1.1 = h.1 ∧ (∀ q, q < h.2.1 → ¬ q = x → hGet h1 q = hGet h q) ∧ h1.2.1 = h.2.1 + 180 ∧ h1.2.2.1 ≤ h.2.2.1 + 5000) ∧ (∃ c' C' nm' g', isW h' (rA h.2.1 1) c' C' nm' g' ∧ CTR m pool S c' C' nm' g') ∧ Same (wBlk (rA h.2.1 1)) h1 h') (fun h1 k1 k2 k3 => (ctr_become 27 k1.w wc0_r k2.w (Or.inr (by unfold rA kA; omega)) hT hok hTk).mono (fun v h' q => ⟨q.1, h1, k1, k2, k3, q.2.1, q.2.2⟩)) (fun h' ⟨h1, k1, k2, k3, k4, k5⟩ => (k5.2.2.2 x (by unfold wBlk rA; omega)).trans k2.gx)
    obtain ⟨v1, h1, ⟨rfl, h2, k1, k2, ⟨k3, k4, k5, k6⟩, ⟨c3, C3, nm3, g3, k7, k8⟩, k9⟩, R1⟩ := P.ex
    have z1 := k9.2.1
    have z2 := k9.2.2.1
    have oS : ∀ a, rBlk h.2.1 a → S a = none := fun a ha => by
      cases z : S a with
      | none => rfl
      | some ob => have := (hst a ob z).2.2; unfold rBlk at ha; omega
    have oo : Old (kBlk x) h h1 := ⟨k9.1.trans k3, by omega, fun b hb hn => (k9.2.2.2 b (by unfold wBlk rA; omega)).trans (k4 b hb (fun q => hn (by unfold kBlk; omega)))⟩
    refine ⟨h.2.1, h1, R1, k2.kp k9.1 (fun q hq => k9.2.2.2 q (by unfold kBlk at hq; unfold wBlk rA; omega)), ⟨0, w0, c3, C3, nm3, g3, k1.ofW k9 k7, k8⟩, ⟨by omega, by omega⟩, oS, fun w e => Or.inl ?_, hst.kp oo (fun b hb => Or.inl (by unfold kBlk at hb; omega)), hke.kp oo (fun b w e hb => by have := hke.lo e; unfold wBlk at hb; unfold kBlk; omega), ⟨k9.1.trans k3, fun b hb => (oo.2.2 b (by unfold eBlk at hb; omega) (by unfold eBlk at hb; unfold kBlk; omega))⟩, by omega, by omega⟩
    rcases hke with ⟨k, -⟩ | ⟨w', c', C', nm', g', ⟨s1, s2⟩, ⟨s3, s4⟩, -⟩
    · rw [k] at e; cases e
    · rw [s1] at e; cases e; exact s4
  · have P := kg_thinkS (G := G) (l := l) 16 hK hc hC t5 (R := fun h' => (∃ c' C' nm' g', isW h' (rA r2 1) c' C' nm' g' ∧ CTR m pool S c' C' nm' g') ∧ Same (wBlk (rA r2 1)) h h') ((ctr_become 27 t5.w t6 hK.w (Or.inr (by unfold rA kA; omega)) hT hok hTk).mono (fun v h' q => q)) (fun h' k => k.2.2.2.2 x (by unfold wBlk rA; omega))
    obtain ⟨v1, h1, ⟨rfl, ⟨c3, C3, nm3, g3, k7, k8⟩, k9⟩, R1⟩ := P.ex
    have z1 := k9.2.1
    have z2 := k9.2.2.1
    exact ⟨r2, h1, R1, hK.kp k9.1 (fun q hq => k9.2.2.2 q (by unfold kBlk at hq; unfold wBlk rA; omega)), ⟨b2, f2, c3, C3, nm3, g3, t5.ofW k9 k7, k8⟩, ⟨t1, by omega⟩, t3, t4, hst.kp (Old.of k9) (fun b hb => Or.inr (t3 b (by unfold wBlk rA at hb; unfold rBlk; omega))), hke.kp (Old.of k9) (fun b w e hb => by have := t4 w e; unfold wBlk at hb; unfold wBlk rA; omega), ⟨k9.1, fun b hb => k9.2.2.2 b (by unfold eBlk at hb; unfold wBlk rA; omega)⟩, by omega, by omega⟩

/-! ===== find, from, rename on both ===== -/
section G7
variable {sg : Bool} {G : mG} {l : Launch} {x y n : Nat} {h hh h1 h' : mH} {f4 : Int} {m kpm pool : Nat → Int} {zt : Int} {ft : Nat → Int} {f18 : Int} {pap rwd rw : Nat → Int}
theorem FrR.Old (F : FrR (kA x 1) h hh) : Old (kBlk x) h hh := ⟨F.1, F.2.1, fun b hb hn => F.2.2.2 b hb (fun q => hn (by unfold dBlk kA at q; unfold kBlk; omega))⟩
theorem CP.of3 {S : Nat → Option mO} {kp tk : Option Nat} {zr : Nat → Int} {fr : Nat → Nat → Int} {p e o zs : Int} {fs : Nat → Int} {b : Int} {fa c : Nat → Int} {C : Nat → Nat → Int} {nm : Nat → Int64} {g : Nat → Option Nat} (hxy : x + 196 ≤ y ∧ y ≤ h.2.1) (F : FrR (kA x 1) h hh) (sz : hh.2.1 ≤ h.2.1 + 200) (hS : Same (kBlk x) hh h1) (hK : isK h1 x kp tk zr fr p e o zt ft zs fs b 0 fa c C nm g) (hT : CTR m pool S c C nm g) (hst : stR y hh S) (hke : keR y hh S kp f4 kpm pool) (htk : tkR y hh S kp tk) (hro : roR zr fr rwd rw) (hpa : paR sg zs fs f18 pap) : CP sg x y f4 m kpm pool zt ft f18 pap rwd rw h h1 := by
  have f2 := F.2.1
  have f3 := F.2.2.1
  obtain ⟨k1, ⟨k2, k3⟩, k4, k5⟩ := CP.of (h := hh) ⟨hxy.1, by omega⟩ hS hK hT hst hke htk hro hpa
  have e1 := hS.2.1
  have e2 := hS.2.2.1
  refine ⟨k1, ⟨k2.trans F.1, fun b hb => (k3 b hb).trans (F.2.2.2 b ?_ ?_)⟩, by omega, by omega⟩
  · unfold eBlk at hb; omega
  · unfold eBlk at hb; unfold dBlk kA; omega
theorem nmY_c {sr sr' : Nat → Int} {p e : Nat} (h : ∀ j, p ≤ j → j < e → sr j = sr' j) : nmY sr p e = nmY sr' p e := by
  have : nmG sr p e = nmG sr' p e := by
    funext j
    unfold nmG
    by_cases c : p + j < e
    · rw [if_pos c, if_pos c, h (p + j) (by omega) c]
    · rw [if_neg c, if_neg c]
  unfold nmY nmN
  rw [this]
theorem hbL_n {rc : Nat → Int} {fr to : Nat} : ∀ n t : Nat, hbL m rc fr to n t = -5 ∨ 0 ≤ hbL m rc fr to n t
  | 0, t => Or.inl rfl
  | n + 1, t => by
    unfold hbL
    split
    · exact Or.inr (by omega)
    · exact hbL_n n (t + 1)
/-- a byte string that is a held thing's name is a name -/
theorem hb_name {rc : Nat → Int} {to : Nat} (hn : ∀ t : Nat, (t : Int) < m 1 → nmOk m t) : ∀ n t : Nat, ((t + n : Nat) : Int) ≤ m 1 → 0 ≤ hbL m rc 0 to n t → (1 ≤ to ∧ to ≤ 7) ∧ ∀ j, j < to → isLt (rc j) := by
  intro n
  induction n with
  | zero => intro t ht h; exact absurd h (by decide : ¬ (0 : Int) ≤ -5)
  | succ n ih =>
    intro t ht h
    unfold hbL at h
    split at h
    · rename_i c
      have ok := hn t (by omega)
      have c2 := c.2
      unfold namedB at c2
      rw [Bool.and_eq_true, decide_eq_true_eq, nmL_iff] at c2
      obtain ⟨c1, c2⟩ := c2
      have o1 := ok.1
      refine ⟨by omega, fun j hj => ?_⟩
      have e1 := ok.2 j (by omega)
      have e2 := c2 j (by omega) (by omega)
      rw [Nat.sub_zero] at e2
      rw [← e2]
      exact e1
    · exact ih (t + 1) (by omega) h
theorem ren_yes {f : Nat → Int} {z : Int} (h1 : 1 ≤ z ∧ z ≤ 7) (hl : ∀ j : Nat, (j : Int) < z → isLt (f j)) (f11 f12 : Int) : (renR f z f11 f12).1 = true := by
  have hl0 := hl 0 (by omega)
  have e0 : hereF f z 0 = f 0 := by unfold hereF; rw [if_pos (by omega)]; rfl
  rcases ren_ok (z := z) (f := f) (f11 := f11) (f12 := f12) ⟨by omega, by omega⟩ with ⟨b, e, n1, n2, n3, n4, n5, n6, n7, n8⟩ | ⟨b, -⟩
  · obtain ⟨p1, p2, p3, p4⟩ := n1
    have ez : (e : Int) = z := by
      by_cases c : (e : Int) < z
      · rcases p4 with p4 | p4
        · omega
        · exact absurd (by unfold clip; rw [if_pos c]; exact hl e c) p4
      · omega
    unfold renR
    rw [wR_1 (len := z) (r := (decide (nameB f z (ps0 f11 f12)), nameF f z (ps0 f11 f12))) (decide_eq_true b) (n5.trans ez) n7]
  · exact absurd (show 97 ≤ hereF f z 0 ∧ hereF f z 0 ≤ 122 by rw [e0]; exact hl0) b
end G7
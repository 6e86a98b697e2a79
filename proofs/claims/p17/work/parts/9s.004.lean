section RDNS
variable {G : mG} {l : Launch} {z : Int} {f : Nat → Int} {a n : Nat}
theorem rdn_take {it bh : Bool} {w : Nat} {h h1 : mH} {p o : Nat} {q : PS} (hR : RDN G l z f a n) (hz : 0 ≤ z ∧ z ≤ 120) (hf : bytesOk f) (hw : w ≤ 3) (hn : w ≤ 2 → 2 * (3 - (w + 1)) + 2 ≤ n) (ha : a + 3 ≤ h.2.1) (q1 : q.1 = p) (q2 : q.2.1 = -1) (q3 : q.2.2.2.2 = o) (hp1 : (p : Int) < z) (ho1 : o ≤ p) (hkd : clip f z p = 97) (hF : hereF f z q.1 = 97) (so : stepOk (hereF f z q.1) it bh q)
    (D1 : isRd h1 a ((p : Int) + 1) (-1) o z f) (O1 : hGet h1 h.2.1 = some (stO 97 0 0 0 none none)) (F1 : FrR a h h1) (e2 : h1.2.1 = h.2.1 + 1) (hlo : h1.1 ≤ h.2.1) {gd : Int} :
    RUN G l (3 * n + 4 + 3) mX2_readStep 169 [some (.ref a), some (.int (J (w : Int))), some (.int (J gd)), some (.int (J 97)), some (.ref h.2.1)] [] h1 (fun v h' => rsPost z f a it o p (stepN f z (n + 1) w it bh q) h v h') := by
  have ho : InR (o : Int) := ⟨by omega, by omega⟩
  have hst : ¬ dBlk a h.2.1 := by unfold dBlk; omega
  have hs : rgS z (((p + 1 : Nat) : Int), -1) := ⟨⟨by dsimp only; omega, by dsimp only; omega⟩, by dsimp only; omega, by dsimp only; omega⟩
  have D1' : isRd h1 a (((p + 1 : Nat) : Int), (-1 : Int)).1 (((p + 1 : Nat) : Int), (-1 : Int)).2 o z f := D1
  have u0 : 0 ≤ (advF q).1 := by show 0 ≤ q.1 + 1; omega
  have u1 : (advF q).1 = ((p + 1 : Nat) : Int) := by show q.1 + 1 = _; omega
  have u2 : (advF q).2.1 = -1 := q2
  have u3 : (advF q).2.2.2.2 = o := q3
  have eR : stepN f z (n + 1) w it bh q = andR (aR f z (advF q)) (closR f z (stepsR f z (stepN f z n ((w : Int) + 1) false false)) w) := by rw [stepN_s, stepR_y so, hF, sg97]; rfl
  have o1 := ok_name (f := f) (q := advF q) u0 hz.2 u2
  rw [u1] at o1
  have rM := nmM_r (f := f) hs hz.2
  obtain ⟨⟨m1, m2⟩, m3, m4⟩ := rM
  refine (rk_take (G := G) (l := l) (3 * n + 4) (br := (w : Int)) (gd := gd) D1' hs ho hz hf hst hlo O1
    (R := fun y r h2 => ∃ h3, FrR a h h3 ∧ h3.2.1 = h1.2.1 ∧ hGet h3 h.2.1 = some (stO 97 0 0 y none none) ∧ FrR a h3 h2 ∧ ((∃ p2 : Nat, (aR f z (advF q)).1 = true ∧ (aR f z (advF q)).2.1 = p2 ∧ p < p2 ∧ (p2 : Int) ≤ z ∧ (y = nmY (clip f z) (p + 1) p2) ∧ rcPost z f a o p2 (closR f z (stepsR f z (stepN f z n ((w : Int) + 1) false false)) w (aR f z (advF q)).2) h3 (some (va_rf r)) h2) ∨ ((aR f z (advF q)).1 = false ∧ r = none ∧ ∃ E, 0 ≤ (aR f z (advF q)).2.2.1 ∧ E = (aR f z (advF q)).2.2.1 ∧ E ≤ 120 ∧ isRd h2 a z E o z f ∧ h2.2.1 = h3.2.1)))
    (fun y h3 gy g1 g2 g3 => ?_) (fun y r h2 g => ?_)).mono (fun v h' g => ?_)
  · have fr : FrR a h h3 := F1.st (Nat.le_refl _) g3
    rcases o1 with ⟨b1, b2, b3⟩ | ⟨b1, b2, b3⟩
    · obtain ⟨n1, n2, n3⟩ := aR_rd u0 b1
      rw [show (advF q).1.toNat = p + 1 by omega] at n1
      obtain ⟨c1, c2, c3⟩ := okn hz.2 n1
      have k1 := congrArg Prod.fst b2
      have k2 := congrArg Prod.snd b2
      dsimp only at k1 k2
      have le := n1.1
      have ep : (aR f z (advF q)).2.1 = (((aR f z (advF q)).2.1.toNat : Nat) : Int) := by omega
      rw [k1, k2, ep] at g1
      have o3 : (aR f z (advF q)).2.2.2.2.2 = o := by rw [n3]; exact u3
      refine (rc_all hR hz hf (by have := g3.2.1; omega) hw hn ep b3 o3 (by omega) (by omega) g1).mono (fun v h2 g4 => ?_)
      obtain ⟨r, rfl, r1, r2⟩ := g4
      exact ⟨r, rfl, h3, fr, g3.2.1, g2, r1, Or.inl ⟨_, b1, ep, by omega, by omega, (gy c1).trans c3, r, rfl, r1, r2⟩⟩
    · have k1 := congrArg Prod.fst b2
      have k2 := congrArg Prod.snd b2
      dsimp only at k1 k2
      rw [k1, k2] at g1
      refine (rc_idle (G := G) (l := l) (3 * n + 4 + 1) (s := (z, (aR f z (advF q)).2.2.1)) g1 ⟨⟨hz.1, Int.le_refl _⟩, by dsimp only; omega, by dsimp only; omega⟩ ⟨by omega, by omega⟩ hz hf hereC_e ⟨by omega, by omega⟩).mono (fun v h2 g4 => ?_)
      obtain ⟨rfl, rfl⟩ := g4
      exact ⟨none, rfl, h2, fr, g3.2.1, g2, FrR.rf, Or.inr ⟨b1, rfl, _, b3, rfl, by omega, g1, rfl⟩⟩
  · obtain ⟨h3, f1, e3, g2, f2, g4⟩ := g
    have lo := D1.lo
    have x1 := f1.1
    have x2 := f2.1
    have x3 := F1.1
    exact ⟨(f2.2.2.2 h.2.1 (by omega) hst).trans g2, by omega⟩
  · obtain ⟨rfl, y, r, h2, gy, ⟨h3, f1, e3, g2, f2, g4⟩, g5, g6⟩ := g
    rw [eR]
    have x2 := f2.2.1
    have fin : FrR a h h' := (f1.tr f2).st (Nat.le_refl _) (g6.mono (fun b hb => Or.inr hb))
    have sz := g6.2.1
    have D6 : ∀ {P E : Int} {o9 : Int}, isRd h2 a P E o9 z f → isRd h' a P E o9 z f := fun k => k.keep2 g6.1 (fun b hb => g6.2.2.2 b (by unfold dBlk at hb; omega))
    refine ⟨some h.2.1, rfl, fin, ?_⟩
    rcases g4 with ⟨p2, a1, a2, a3, a4, rfl, r0, e0, r1, r2⟩ | ⟨a1, rfl, E, a2, a3, a4, a5, a6⟩
    · have er : r = r0 := by
        have := Option.some.inj e0
        exact va_rf_i this
      subst er
      rw [andR_t a1]
      obtain ⟨n1, n2, n3⟩ := aR_rd u0 a1
      rw [show (advF q).1.toNat = p + 1 by omega, a2, Int.toNat_natCast] at n1
      rcases r2 with ⟨b1, b2, b3, p', b4, b5, b6, b7, b8, b9⟩ | ⟨b1, b2⟩
      · refine Or.inl ⟨b1, b2, rfl, p', o, b4, b3, D6 b5, b6, by omega, by omega, fun _ => rfl, by omega, Or.inl ⟨Or.inl ⟨by omega, 0, 0, _, r, by rw [hkd]; exact g5, Or.inr (Or.inr (Or.inl ⟨hkd, p2, n1, rfl, ?_⟩))⟩, rfl⟩⟩
        rcases b9 with ⟨c1, c2, c3⟩ | ⟨c1, c2, r', c3, c4, c5, c6⟩
        · exact Or.inl ⟨c2, c3, c1⟩
        · refine Or.inr ⟨c2, r', h3.2.1, ?_, c5, c4, c3, c1, by omega⟩
          refine clX_c (Nat.le_of_eq sz.symm) (fun b b1 b2 => g6.2.2.2 b (by omega)) c6
      · obtain ⟨P, E, o', k1, k⟩ := rdF_in (p := p) (h := h) b2 (by omega)
        exact Or.inr ⟨b1, P, E, o', D6 k1, k.1, k.2.1, by have := k.2.2.1; omega, k.2.2.2⟩
    · rw [andR_f (by rw [a1]; decide)]
      exact Or.inr ⟨a1, z, E, o, D6 a5, ⟨⟨hz.1, Int.le_refl _⟩, by dsimp only; omega, by dsimp only; omega⟩, ⟨by omega, by omega⟩, by omega, a2, Or.inl ⟨rfl, a3⟩⟩
end RDNS

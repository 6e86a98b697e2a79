section RDNS
variable {G : mG} {l : Launch} {z : Int} {f : Nat → Int} {a n : Nat}
theorem rdn_if {w : Nat} {h h1 : mH} {p o : Nat} {q : PS} {it : Bool} (hR : RDN G l z f a n) (hz : 0 ≤ z ∧ z ≤ 120) (hf : bytesOk f) (hw : w ≤ 3) (hn : 2 * (3 - w) + 1 ≤ n) (ha : a + 3 ≤ h.2.1) (q1 : q.1 = p) (q2 : q.2.1 = -1) (q3 : q.2.2.2.2 = o) (hp1 : (p : Int) < z) (ho1 : o ≤ p) (hkd : clip f z p = 63) (hF : hereF f z q.1 = 63) (so : stepOk (hereF f z q.1) it false q)
    (D1 : isRd h1 a ((p : Int) + 1) (-1) o z f) (O1 : hGet h1 h.2.1 = some (stO 63 0 0 0 none none)) (F1 : FrR a h h1) (e2 : h1.2.1 = h.2.1 + 1) (hlo : h1.1 ≤ h.2.1) {gd : Int} :
    RUN G l (3 * n + 4 + 3) mX2_readStep 245 [some (.ref a), some (.int (J (w : Int))), some (.int (J gd)), some (.int (J 63)), some (.ref h.2.1)] [] h1 (fun v h' => rsPost z f a it o p (stepN f z (n + 1) w it false q) h v h') := by
  have ho : InR (o : Int) := ⟨by omega, by omega⟩
  have hst : ¬ dBlk a h.2.1 := by unfold dBlk; omega
  have hs : rgS z (((p + 1 : Nat) : Int), -1) := ⟨⟨by dsimp only; omega, by dsimp only; omega⟩, by dsimp only; omega, by dsimp only; omega⟩
  have D1' : isRd h1 a (((p + 1 : Nat) : Int), (-1 : Int)).1 (((p + 1 : Nat) : Int), (-1 : Int)).2 o z f := D1
  have u0 : 0 ≤ (advF q).1 := by show 0 ≤ q.1 + 1; omega
  have u1 : (advF q).1 = ((p + 1 : Nat) : Int) := by show q.1 + 1 = _; omega
  have u2 : (advF q).2.1 = -1 := q2
  have u3 : (advF q).2.2.2.2 = o := q3
  obtain ⟨R4, hR4⟩ : ∃ R4, R4 = andR (andR (andR (nR f z 1 0 7 (advF q)) (gR f z 60)) (vR f z)) (gR f z 58) := ⟨_, rfl⟩
  have eR : stepN f z (n + 1) w it false q = andR R4 (stepN f z n w false true) := by rw [stepN_s, stepR_y so, hF, sg63, hR4]
  have o1 : ok2 z (fgM z f 8 (((p + 1 : Nat) : Int), -1)) (nR f z 1 0 7 (advF q)) := by
    have x := ok_fig (f := f) (k := 7) (q := advF q) u0 hz.2 u2 (by decide)
    rw [u1] at x
    exact x
  have o2 := ok2_and (K2 := xpM z f 60) (R2 := gR f z 60) o1 (xpM_i (by decide)) (fun b c => ok_exp (by have := (nR_rd (sr := f) (len := z) u0 (by decide) b).2.1; omega) hz.2 c)
  have o3 := ok2_and (K2 := vlM z f) (R2 := vR f z) o2 vlM_i (fun b c => ok_val (by
    obtain ⟨b1, b2, b3⟩ := andR_s b
    rw [b3, (gR_rd (by have := (nR_rd (sr := f) (len := z) u0 (by decide) b1).2.1; omega) (by decide) b2).2]
    have := (nR_rd (sr := f) (len := z) u0 (by decide) b1).2.1
    show (0 : Int) ≤ (nR f z 1 0 7 (advF q)).2.1 + 1
    omega) hz.2 c)
  /- what stands ahead of the inner step, when it was read -/
  have txt : (andR (andR (nR f z 1 0 7 (advF q)) (gR f z 60)) (vR f z)).1 = true → (48 ≤ clip f z (p + 1) ∧ clip f z (p + 1) ≤ 55) ∧ clip f z (p + 2) = 60 ∧ (p + 3 : Int) < (andR (andR (nR f z 1 0 7 (advF q)) (gR f z 60)) (vR f z)).2.1 ∧ sgnS (clip f z) (p + 3) (andR (andR (nR f z 1 0 7 (advF q)) (gR f z 60)) (vR f z)).2.1.toNat ∧ (andR (andR (nR f z 1 0 7 (advF q)) (gR f z 60)) (vR f z)).2.2.2.2.2 = o := fun b => by
    obtain ⟨x1, x2, x3⟩ := andR_s b
    obtain ⟨y1, y2, y3⟩ := andR_s x1
    rw [x3]
    rw [y3] at x2 ⊢
    obtain ⟨n1, n2, n3⟩ := nR_rd u0 (by decide) y1
    obtain ⟨g1, g2⟩ := gR_rd (by omega) (by decide) y2
    rw [g2] at x2 ⊢
    have e3 : (advF (nR f z 1 0 7 (advF q)).2).1 = (nR f z 1 0 7 (advF q)).2.1 + 1 := rfl
    have e4 : (advF (nR f z 1 0 7 (advF q)).2).2.2.2.2 = (nR f z 1 0 7 (advF q)).2.2.2.2.2 := rfl
    obtain ⟨w1, w2, w3⟩ := vR_rd (by omega) x2
    obtain ⟨m1, m2, m3⟩ := n1
    have ep : (nR f z 1 0 7 (advF q)).2.1.toNat = p + 2 := by omega
    have dg := m3 (p + 1) (by omega) (by omega)
    obtain ⟨d1, d2, d3, d4⟩ := nR_y y1
    have e5 : (numL f z 1 ((advF q).1, (advF q).2.1, 0, (advF q).2.2.2)).2.2.1 = 10 * 0 + hereF f z (advF q).1 - 48 := by
      unfold numL
      rw [if_pos d1]
      unfold numL
      rfl
    rw [e5] at d4
    have d7 := here_c u0 (rfl : hereF f z (advF q).1 = _) (by omega)
    rw [show (advF q).1.toNat = p + 1 by omega] at d7
    unfold dgP at dg
    refine ⟨⟨dg.1, by omega⟩, by rw [← ep]; exact g1, by omega, ?_, by rw [w3, e4, n3]; exact u3⟩
    rw [e3, show ((nR f z 1 0 7 (advF q)).2.1 + 1).toNat = p + 3 by omega] at w1
    exact w1
  have o4 := ok2_and (K2 := xpM z f 58) (R2 := gR f z 58) o3 (xpM_i (by decide)) (fun b c => ok_exp (by have := (txt b).2.2.1; omega) hz.2 c)
  rw [← hR4] at o4
  have txt4 : R4.1 = true → ∃ e : Nat, p + 3 < e ∧ R4.2.1 = ((e + 1 : Nat) : Int) ∧ R4.2.2.2.2.2 = o ∧ clip f z e = 58 ∧ sgnS (clip f z) (p + 3) e ∧ (48 ≤ clip f z (p + 1) ∧ clip f z (p + 1) ≤ 55) ∧ clip f z (p + 2) = 60 := fun b => by
    rw [hR4] at b ⊢
    obtain ⟨x1, x2, x3⟩ := andR_s b
    rw [x3]
    obtain ⟨t1, t2, t3, t4, t5⟩ := txt x1
    obtain ⟨g1, g2⟩ := gR_rd (by omega) (by decide) x2
    rw [g2]
    refine ⟨_, ?_, ?_, t5, g1, t4, t1, t2⟩
    · omega
    · show (andR (andR (nR f z 1 0 7 (advF q)) (gR f z 60)) (vR f z)).2.1 + 1 = _
      omega
  have rM := xpM_r (f := f) (k := 58) (vlM_r (f := f) (xpM_r (f := f) (k := 60) (fgM_r (f := f) (k := 8) hs hz.2 (by decide)) hz.2 (by decide)) hz.2) hz.2 (by decide)
  obtain ⟨⟨m1, m2⟩, m3, m4⟩ := rM
  refine (rk_if (G := G) (l := l) (3 * n + 4) (br := (w : Int)) (gd := gd) D1' hs ho hz hf hst hlo O1
    (R := fun r h2 => ∃ h3, FrR a h h3 ∧ h3.2.1 = h1.2.1 ∧ hGet h3 h.2.1 = some (stO 63 (fgU z f 8 ((p + 1 : Nat) : Int)) (rvV (xpM z f 60 (fgM z f 8 (((p + 1 : Nat) : Int), -1))).1 z f) 0 none none) ∧ FrR a h3 h2 ∧ ((∃ p2 : Nat, R4.1 = true ∧ R4.2.1 = p2 ∧ p < p2 ∧ (p2 : Int) ≤ z ∧ rsPost z f a false o p2 (stepN f z n w false true R4.2) h3 (some (va_rf r)) h2) ∨ (R4.1 = false ∧ r = none ∧ ∃ E, 0 ≤ R4.2.2.1 ∧ E = R4.2.2.1 ∧ E ≤ 120 ∧ isRd h2 a z E o z f ∧ h2.2.1 = h3.2.1)))
    (fun h3 g1 g2 g3 => ?_) (fun r h2 g => ?_)).mono (fun v h' g => ?_)
  · have fr : FrR a h h3 := F1.st (Nat.le_refl _) g3
    rcases o4 with ⟨b1, b2, b3⟩ | ⟨b1, b2, b3⟩
    · obtain ⟨e, t1, t2, t3, t4, t5, t6⟩ := txt4 b1
      have k1 := congrArg Prod.fst b2
      have k2 := congrArg Prod.snd b2
      dsimp only at k1 k2
      rw [k1, k2, t2] at g1
      refine ((hR w false true 1 h3 (e + 1) o R4.2 ⟨fun _ => rfl, fun g => absurd g (by decide)⟩ hw ⟨fun g => absurd g (by decide), fun g => absurd g.2 (by decide)⟩ (by rw [if_pos rfl]; exact hn) t2 b3 t3 (by omega) (by omega) g1 (by have := g3.2.1; omega)).deeper (by omega)).mono (fun v h2 g4 => ?_)
      obtain ⟨r, rfl, r1, r2⟩ := g4
      exact ⟨r, rfl, h3, fr, g3.2.1, g2, r1, Or.inl ⟨_, b1, t2, by omega, by omega, r, rfl, r1, r2⟩⟩
    · have k1 := congrArg Prod.fst b2
      have k2 := congrArg Prod.snd b2
      dsimp only at k1 k2
      rw [k1, k2] at g1
      refine (rd_stepNot (G := G) (l := l) (3 * n + 4 + 1) g1 ⟨by omega, by omega⟩ ⟨by omega, by omega⟩ ho ⟨by omega, by omega⟩ (fun j => by have := hf j; exact ⟨by omega, by omega⟩) (br := (w : Int)) (gd := 1) ⟨by omega, by omega⟩ ⟨by decide, by decide⟩ (by rw [hereC_e]; unfold mbP; omega)).mono (fun v h2 g4 => ?_)
      obtain ⟨rfl, g5, g6⟩ := g4
      rw [ftE_s b3] at g5
      exact ⟨none, rfl, h3, fr, g3.2.1, g2, FrR.sm g6, Or.inr ⟨b1, rfl, _, b3, rfl, by omega, g5, g6.2.1⟩⟩
  · obtain ⟨h3, f1, e3, g2, f2, g4⟩ := g
    have x1 := f1.1
    have x2 := f2.1
    have x3 := F1.1
    exact ⟨(f2.2.2.2 h.2.1 (by omega) hst).trans g2, by omega⟩
  · obtain ⟨rfl, r, h2, ⟨h3, f1, e3, g2, f2, g4⟩, g5, g6⟩ := g
    rw [eR]
    have x2 := f2.2.1
    have fin : FrR a h h' := (f1.tr f2).st (Nat.le_refl _) (g6.mono (fun b hb => Or.inr hb))
    have sz := g6.2.1
    have D6 : ∀ {P E : Int} {o9 : Int}, isRd h2 a P E o9 z f → isRd h' a P E o9 z f := fun k => k.keep2 g6.1 (fun b hb => g6.2.2.2 b (by unfold dBlk at hb; omega))
    refine ⟨some h.2.1, rfl, fin, ?_⟩
    rcases g4 with ⟨p2, a1, a2, a3, a4, r0, e0, r1, r2⟩ | ⟨a1, rfl, E, a2, a3, a4, a5, a6⟩
    · have er : r = r0 := va_rf_i (Option.some.inj e0)
      subst er
      rw [andR_t a1]
      obtain ⟨e, t1, t2, t3, t4, t5, t6, t7⟩ := txt4 a1
      have ep : p2 = e + 1 := by omega
      subst ep
      rcases r2 with ⟨b1, b2, rfl, p', o', b3, b4, b5, b6, b7, b8, b9, c1, c2⟩ | ⟨b1, b2⟩
      · have oo := b9 rfl
        subst oo
        obtain ⟨c3, c4⟩ := okc (f := f) (k := 8) (p := p + 1) hz.2 ⟨by omega, by omega⟩
        have c5 := okx (f := f) (c := 60) (p := p + 1 + 1) hz.2 (by decide) t7
        rw [c3, c4, c5] at g5
        have c6 := rvV_a (f := f) hz.2 (p + 1 + 1 + 1)
        dsimp only at g5
        rw [c6] at g5
        have rd := stepN_rd (sr := f) (len := z) n w false true R4.2 (fun g => absurd g (by decide)) (by omega) (by omega) b1
        obtain ⟨-, rd⟩ := rd
        have tT : stepT (clip f z) (someC (clip f z)) (e + 1) p' := by
          rcases rd with ⟨-, -, -, rd⟩ | ⟨rd, -⟩ | ⟨rd, -⟩ | ⟨rd, -⟩
          · rw [t2, b3, Int.toNat_natCast, Int.toNat_natCast] at rd; exact rd
          · cases rd
          · cases rd
          · cases rd
        have n63 : ¬ clip f z (e + 1) = 63 := fun g => by
          rcases tT with t | t | t | t | t | t | t
          all_goals (have := t.1; omega)
        have sA : stA (hGet h2) (clip f z) (clX (hGet h2) (clip f z)) h3.2.1 none h2.2.1 (e + 1) p' := by
          rcases c2 with ⟨k | k, -⟩ | ⟨k, -⟩ | ⟨k, -⟩
          · exact k
          · exact absurd k.2.1 n63
          · cases k
          · cases k
        have sA' : stA (hGet h') (clip f z) (clX (hGet h') (clip f z)) h3.2.1 none h'.2.1 (e + 1) p' := stA_c (Nat.le_of_eq sz.symm) (fun b q r x y => clX_c (Nat.le_of_eq sz.symm) (fun c u v => g6.2.2.2 c (by omega)) y) (fun kd num vl y inn g => (g6.2.2.2 h3.2.1 (by omega)).trans g) sA
        exact Or.inl ⟨b1, b2, rfl, p', o', b3, b4, D6 b5, b6, by omega, by omega, fun _ => rfl, by omega, Or.inl ⟨Or.inr ⟨by omega, hkd, t6, t7, e, h3.2.1, 0, none, g5, t5, t4, by omega, sA'⟩, rfl⟩⟩
      · obtain ⟨P, E, o', k1, k⟩ := rdF_in (p := p) (h := h) b2 (by omega)
        exact Or.inr ⟨b1, P, E, o', D6 k1, k.1, k.2.1, by have := k.2.2.1; omega, k.2.2.2⟩
    · rw [andR_f (by rw [a1]; decide)]
      exact Or.inr ⟨a1, z, E, o, D6 a5, ⟨⟨hz.1, Int.le_refl _⟩, by dsimp only; omega, by dsimp only; omega⟩, ⟨by omega, by omega⟩, by omega, a2, Or.inl ⟨rfl, a3⟩⟩
end RDNS

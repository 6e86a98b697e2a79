section RDNS
variable {G : mG} {l : Launch} {z : Int} {f : Nat → Int} {a n : Nat}
/-- all that is at hand when a step's first byte has been read -/
theorem rdn_simple {it bh : Bool} {w : Nat} {h h1 : mH} {p o : Nat} {q : PS} {kd : Int} (hz : 0 ≤ z ∧ z ≤ 120) (hf : bytesOk f) (hib : it = true → bh = false) (ha : a + 3 ≤ h.2.1) (q1 : q.1 = p) (q2 : q.2.1 = -1) (q3 : q.2.2.2.2 = o) (hp1 : (p : Int) < z) (ho1 : o ≤ p) (hkd : clip f z p = kd) (hF : hereF f z q.1 = kd) (so : stepOk (hereF f z q.1) it bh q)
    (D1 : isRd h1 a ((p : Int) + 1) (-1) o z f) (O1 : hGet h1 h.2.1 = some (stO kd 0 0 0 none none)) (F1 : FrR a h h1) (e2 : h1.2.1 = h.2.1 + 1) (hlo : h1.1 ≤ h.2.1) {br gd : Int} (hbr : InR br) (d : Nat) :
    (kd = 43 → RUN G l (d + 3) mX2_readStep 128 [some (.ref a), some (.int (J br)), some (.int (J gd)), some (.int (J kd)), some (.ref h.2.1)] [] h1 (fun v h' => rsPost z f a it o p (stepN f z (n + 1) w it bh q) h v h')) ∧
    (kd = 33 → RUN G l (d + 3) mX2_readStep 157 [some (.ref a), some (.int (J br)), some (.int (J gd)), some (.int (J kd)), some (.ref h.2.1)] [] h1 (fun v h' => rsPost z f a it o p (stepN f z (n + 1) w it bh q) h v h')) ∧
    (kd = 120 → RUN G l (d + 3) mX2_readStep 191 [some (.ref a), some (.int (J br)), some (.int (J gd)), some (.int (J kd)), some (.ref h.2.1)] [] h1 (fun v h' => rsPost z f a it o p (stepN f z (n + 1) w it bh q) h v h')) ∧
    (kd = 109 → RUN G l (d + 3) mX2_readStep 203 [some (.ref a), some (.int (J br)), some (.int (J gd)), some (.int (J kd)), some (.ref h.2.1)] [] h1 (fun v h' => rsPost z f a it o p (stepN f z (n + 1) w it bh q) h v h')) ∧
    (kd = 107 → RUN G l (d + 3) mX2_readStep 231 [some (.ref a), some (.int (J br)), some (.int (J gd)), some (.int (J kd)), some (.ref h.2.1)] [] h1 (fun v h' => rsPost z f a it o p (stepN f z (n + 1) w it bh q) h v h')) ∧
    (kd = 40 → RUN G l (d + 3) mX2_readStep 291 [some (.ref a), some (.int (J br)), some (.int (J gd)), some (.int (J kd)), some (.ref h.2.1)] [] h1 (fun v h' => rsPost z f a it o p (stepN f z (n + 1) w it bh q) h v h')) ∧
    (kd = 41 → RUN G l (d + 3) mX2_readStep 304 [some (.ref a), some (.int (J br)), some (.int (J gd)), some (.int (J kd)), some (.ref h.2.1)] [] h1 (fun v h' => rsPost z f a it o p (stepN f z (n + 1) w it bh q) h v h')) ∧
    (kd = 46 → RUN G l (d + 3) mX2_readStep 317 [some (.ref a), some (.int (J br)), some (.int (J gd)), some (.int (J kd)), some (.ref h.2.1)] [] h1 (fun v h' => rsPost z f a it o p (stepN f z (n + 1) w it bh q) h v h')) := by
  have ho : InR (o : Int) := ⟨by omega, by omega⟩
  have hst : ¬ dBlk a h.2.1 := by unfold dBlk; omega
  have hs : rgS z (((p + 1 : Nat) : Int), -1) := ⟨⟨by dsimp only; omega, by dsimp only; omega⟩, by dsimp only; omega, by dsimp only; omega⟩
  have D1' : isRd h1 a (((p + 1 : Nat) : Int), (-1 : Int)).1 (((p + 1 : Nat) : Int), (-1 : Int)).2 o z f := D1
  have u0 : 0 ≤ (advF q).1 := by show 0 ≤ q.1 + 1; omega
  have u1 : (advF q).1 = ((p + 1 : Nat) : Int) := by show q.1 + 1 = _; omega
  have u2 : (advF q).2.1 = -1 := q2
  have u3 : (advF q).2.2.2.2 = o := q3
  have qp : q.1.toNat = p := by omega
  have eR : stepN f z (n + 1) w it bh q = stepG f z (takeG f z (stepsR f z (stepN f z n ((w : Int) + 1) false false)) w) (stepN f z n w false true) kd (advF q) := by rw [stepN_s, stepR_y so, hF]
  have rd : (stepN f z (n + 1) w it bh q).1 = true → rdS f z it bh q (stepN f z (n + 1) w it bh q).2 := stepN_rd (n + 1) w it bh q hib (by omega) (by omega)
  have T : ∀ {h' : mH}, Same (fun b => dBlk a b ∨ b = h.2.1) h1 h' → h.2.1 < h'.2.1 := fun S => by have := S.2.1; omega
  refine ⟨fun k => ?_, fun k => ?_, fun k => ?_, fun k => ?_, fun k => ?_, fun k => ?_, fun k => ?_, fun k => ?_⟩
  · subst k
    refine (rk_plus (G := G) (l := l) d (br := br) (gd := gd) D1' hs ho hz hf hst hlo O1).mono (fun v h' g => ?_)
    obtain ⟨rfl, g1, g2, g3⟩ := g
    have o1 := ok_fig (f := f) (k := 7) (q := advF q) u0 hz.2 u2 (by decide)
    rw [u1] at o1
    have o2 := ok2_and (K2 := xpM z f 61) (R2 := gR f z 61) o1 (xpM_i (by decide)) (fun b c => ok_exp (by have := (nR_rd (sr := f) (len := z) u0 (by decide) b).2.1; omega) hz.2 c)
    have o3 := ok2_and (K2 := vlM z f) (R2 := vR f z) o2 vlM_i (fun b c => ok_val (by
      obtain ⟨b1, b2, b3⟩ := andR_s b
      rw [b3, (gR_rd (by have := (nR_rd (sr := f) (len := z) u0 (by decide) b1).2.1; omega) (by decide) b2).2]
      have := (nR_rd (sr := f) (len := z) u0 (by decide) b1).2.1
      show (0 : Int) ≤ (nR f z 1 0 7 (advF q)).2.1 + 1
      omega) hz.2 c)
    rw [eR, sg43]
    rw [eR, sg43] at rd
    refine rs_fin hz o3 (vlM_r (xpM_r (fgM_r hs hz.2 (by decide)) hz.2 (by decide)) hz.2) hp1 ho1 F1 e2 g3 g1 (fun b => ?_)
    obtain ⟨t1, t2, t3⟩ := rdS_T (rd b) (by rw [qp, hkd]; decide) (by rw [qp, hkd]; decide) (by rw [qp, hkd]; decide)
    rw [q3] at t2
    rw [qp] at t3
    refine ⟨by omega, t2, Or.inl ⟨Or.inl ⟨T g3, _, _, _, _, by rw [hkd]; exact g2, Or.inl ?_⟩, rfl⟩⟩
    rcases t3 with t | t | t | t | t | t | t
    · obtain ⟨-, b1, b2, b3⟩ := t
      obtain ⟨c1, c2⟩ := okc (f := f) (k := 8) (p := p + 1) hz.2 ⟨by omega, by omega⟩
      have c3 := okx (f := f) (c := 61) (p := p + 1 + 1) hz.2 (by decide) b2
      refine ⟨hkd, b1, b2, b3, c1, ?_⟩
      rw [c2, c3]
      exact rvV_a hz.2 (p + 3)
    all_goals (exfalso; have := t.1; omega)
  · subst k
    refine (rk_bang (G := G) (l := l) d (br := br) (gd := gd) D1' hs ho hz hf hst hlo O1).mono (fun v h' g => ?_)
    obtain ⟨rfl, g1, g2, g3⟩ := g
    have o1 := ok_fn (f := f) (q := advF q) u0 hz.2 u2
    rw [u1] at o1
    rw [eR, sg33]
    rw [eR, sg33] at rd
    refine rs_fin hz o1 (fnM_r hs hz.2) hp1 ho1 F1 e2 g3 g1 (fun b => ?_)
    obtain ⟨t1, t2, t3⟩ := rdS_T (rd b) (by rw [qp, hkd]; decide) (by rw [qp, hkd]; decide) (by rw [qp, hkd]; decide)
    rw [q3] at t2
    rw [qp] at t3
    refine ⟨by omega, t2, Or.inl ⟨Or.inl ⟨T g3, _, _, _, _, by rw [hkd]; exact g2, Or.inr (Or.inl ?_)⟩, rfl⟩⟩
    rcases t3 with t | t | t | t | t | t | t
    · exfalso; have := t.1; omega
    · exact ⟨hkd, t.2, rfL_a hz.2 2 (p + 1) 0⟩
    all_goals (exfalso; have := t.1; omega)
  · subst k
    refine (rk_close (G := G) (l := l) d (br := br) (gd := gd) D1' hs ho hz hf hst hlo O1).mono (fun v h' g => ?_)
    obtain ⟨rfl, y, gy, g1, g2, g3⟩ := g
    have o1 := ok_name (f := f) (q := advF q) u0 hz.2 u2
    rw [u1] at o1
    rw [eR, sg120]
    rw [eR, sg120] at rd
    refine rs_fin hz o1 (nmM_r hs hz.2) hp1 ho1 F1 e2 g3 g1 (fun b => ?_)
    obtain ⟨t1, t2, t3⟩ := rdS_T (rd b) (by rw [qp, hkd]; decide) (by rw [qp, hkd]; decide) (by rw [qp, hkd]; decide)
    rw [q3] at t2
    rw [qp] at t3
    refine ⟨by omega, t2, Or.inl ⟨Or.inl ⟨T g3, _, _, _, _, by rw [hkd]; exact g2, Or.inr (Or.inr (Or.inr (Or.inl ?_)))⟩, rfl⟩⟩
    rcases t3 with t | t | t | t | t | t | t
    · exfalso; have := t.1; omega
    · exfalso; have := t.1; omega
    · exfalso; have := t.1; omega
    · obtain ⟨c1, c2, c3⟩ := okn hz.2 t.2
      exact ⟨hkd, t.2, by rw [gy c1]; exact c3⟩
    all_goals (exfalso; have := t.1; omega)
  · subst k
    refine (rk_move (G := G) (l := l) d (br := br) (gd := gd) D1' hs ho hz hf hst hlo O1).mono (fun v h' g => ?_)
    obtain ⟨rfl, y, gy, g1, g2, g3⟩ := g
    have o1 := ok_name (f := f) (q := advF q) u0 hz.2 u2
    rw [u1] at o1
    have o2 := ok2_and (K2 := xpM z f 62) (R2 := gR f z 62) o1 (xpM_i (by decide)) (fun b c => ok_exp (by have := (aR_rd (sr := f) (len := z) u0 b).2.1; omega) hz.2 c)
    have o3 := ok2_and (K2 := fsM z f 2) (R2 := nR f z 2 0 99) o2 fsM_i (fun b c => ok_figs (by
      obtain ⟨b1, b2, b3⟩ := andR_s b
      rw [b3, (gR_rd (by have := (aR_rd (sr := f) (len := z) u0 b1).2.1; omega) (by decide) b2).2]
      have := (aR_rd (sr := f) (len := z) u0 b1).2.1
      show (0 : Int) ≤ (aR f z (advF q)).2.1 + 1
      omega) hz.2 c)
    rw [eR, sg109]
    rw [eR, sg109] at rd
    refine rs_fin hz o3 (fsM_r (m := 2) (xpM_r (nmM_r hs hz.2) hz.2 (by decide)) hz.2) hp1 ho1 F1 e2 g3 g1 (fun b => ?_)
    obtain ⟨t1, t2, t3⟩ := rdS_T (rd b) (by rw [qp, hkd]; decide) (by rw [qp, hkd]; decide) (by rw [qp, hkd]; decide)
    rw [q3] at t2
    rw [qp] at t3
    refine ⟨by omega, t2, Or.inl ⟨Or.inl ⟨T g3, _, _, _, _, by rw [hkd]; exact g2, Or.inr (Or.inr (Or.inr (Or.inr (Or.inl ?_))))⟩, rfl⟩⟩
    rcases t3 with t | t | t | t | t | t | t
    · exfalso; have := t.1; omega
    · exfalso; have := t.1; omega
    · exfalso; have := t.1; omega
    · exfalso; have := t.1; omega
    · obtain ⟨-, e, b1, b2, b3⟩ := t
      obtain ⟨c1, c2, c3⟩ := okn hz.2 b1
      have c4 := okx (f := f) (c := 62) (p := e) hz.2 (by decide) b2
      refine ⟨hkd, e, b1, b2, b3, by rw [gy c1]; exact c3, ?_⟩
      rw [c2, c4]
      exact rfL_a hz.2 2 (e + 1) 0
    all_goals (exfalso; have := t.1; omega)
  · subst k
    refine (rk_cancel (G := G) (l := l) d (br := br) (gd := gd) D1' hs ho hz hf hst hlo O1).mono (fun v h' g => ?_)
    obtain ⟨rfl, g1, g2, g3⟩ := g
    have o1 := ok_fig (f := f) (k := 9) (q := advF q) u0 hz.2 u2 (by decide)
    rw [u1] at o1
    rw [eR, sg107]
    rw [eR, sg107] at rd
    refine rs_fin hz o1 (fgM_r hs hz.2 (by decide)) hp1 ho1 F1 e2 g3 g1 (fun b => ?_)
    obtain ⟨t1, t2, t3⟩ := rdS_T (rd b) (by rw [qp, hkd]; decide) (by rw [qp, hkd]; decide) (by rw [qp, hkd]; decide)
    rw [q3] at t2
    rw [qp] at t3
    refine ⟨by omega, t2, Or.inl ⟨Or.inl ⟨T g3, _, _, _, _, by rw [hkd]; exact g2, Or.inr (Or.inr (Or.inr (Or.inr (Or.inr (Or.inl ?_)))))⟩, rfl⟩⟩
    rcases t3 with t | t | t | t | t | t | t
    · exfalso; have := t.1; omega
    · exfalso; have := t.1; omega
    · exfalso; have := t.1; omega
    · exfalso; have := t.1; omega
    · exfalso; have := t.1; omega
    · have dg := t.2.1
      unfold dgP at dg
      exact ⟨hkd, t.2.1, t.2.2, (okc (f := f) (k := 10) (p := p + 1) hz.2 ⟨by omega, by omega⟩).1⟩
    · exfalso; have := t.1; omega
  · subst k
    refine (rk_open (G := G) (l := l) d (br := br) (gd := gd) D1' hs ho hz hf hst hlo O1).mono (fun v h' g => ?_)
    obtain ⟨rfl, g1, g2, g3⟩ := g
    have sz := g3.2.1
    rw [eR, sgE (by decide)]
    have c := so
    rw [hF] at c
    have hit : it = true := by
      rcases c with c | c | c | c | c | c | c | c | c
      all_goals first | exact absurd c (by decide) | exact absurd c.1 (by decide) | exact c.2
    refine ⟨some h.2.1, rfl, F1.st (Nat.le_refl _) g3, Or.inl ⟨rfl, q2, rfl, p + 1, o + 1, u1, ?_, by rw [show ((o + 1 : Nat) : Int) = (o : Int) + 1 by omega]; exact g1, by omega, by omega, by omega, fun g => absurd (hit.symm.trans g) (by decide), by omega, Or.inr (Or.inl ⟨hit, T g3, hkd, rfl, rfl, _, _, _, _, g2⟩)⟩⟩
    show q.2.2.2.2 + (if (40 : Int) = 40 then 1 else if (40 : Int) = 41 then -1 else 0) = _
    rw [if_pos rfl, q3]; omega
  · subst k
    refine (rk_shut (G := G) (l := l) d (br := br) (gd := gd) D1' hs ho hz hf hst hlo O1).mono (fun v h' g => ?_)
    obtain ⟨rfl, g1, g2, g3⟩ := g
    have sz := g3.2.1
    rw [eR, sgE (by decide)]
    have c := so
    rw [hF] at c
    have hit : it = true ∧ 0 < q.2.2.2.2 := by
      rcases c with c | c | c | c | c | c | c | c | ⟨c, hit⟩
      all_goals first | exact absurd c (by decide) | exact absurd c.1 (by decide) | skip
      rcases c with c | c
      · exact absurd c (by decide)
      · exact ⟨hit, c.2⟩
    have o1 : 1 ≤ o := by have := hit.2; omega
    refine ⟨some h.2.1, rfl, F1.st (Nat.le_refl _) g3, Or.inl ⟨rfl, q2, rfl, p + 1, o - 1, u1, ?_, by rw [show ((o - 1 : Nat) : Int) = (o : Int) - 1 by omega]; exact g1, by omega, by omega, by omega, fun g => absurd (hit.1.symm.trans g) (by decide), by omega, Or.inr (Or.inr ⟨hit.1, T g3, hkd, rfl, by omega, _, _, _, _, g2⟩)⟩⟩
    show q.2.2.2.2 + (if (41 : Int) = 40 then 1 else if (41 : Int) = 41 then -1 else 0) = _
    rw [if_neg (by decide), if_pos rfl, q3]; omega
  · subst k
    refine (rk_nop (G := G) (l := l) d (br := br) (gd := gd) D1' hs ho hz hf hst hlo O1).mono (fun v h' g => ?_)
    obtain ⟨rfl, g1, g2, g3⟩ := g
    have sz := g3.2.1
    rw [eR, sgE (by decide)]
    refine ⟨some h.2.1, rfl, F1.st (Nat.le_refl _) g3, Or.inl ⟨rfl, q2, rfl, p + 1, o, u1, ?_, g1, by omega, by omega, by omega, fun _ => rfl, by omega, Or.inl ⟨Or.inl ⟨T g3, _, _, _, _, by rw [hkd]; exact g2, Or.inr (Or.inr (Or.inr (Or.inr (Or.inr (Or.inr ⟨hkd, rfl⟩)))))⟩, rfl⟩⟩⟩
    show q.2.2.2.2 + (if (46 : Int) = 40 then 1 else if (46 : Int) = 41 then -1 else 0) = _
    rw [if_neg (by decide), if_neg (by decide), q3]; omega
end RDNS

/-! ===== the class: a step is read, with all that is in it ===== -/
set_option maxHeartbeats 4000000 in
set_option maxRecDepth 100000 in
theorem rc_idle {G : mG} {l : Launch} (d : Nat) {h : mH} {a : Nat} {s : Int × Int} {o z : Int} {f : Nat → Int} (hD : isRd h a s.1 s.2 o z f) (hs : rgS z s) (ho1 : -1 ≤ o ∧ o ≤ 200) (hz : 0 ≤ z ∧ z ≤ 120) (hf : bytesOk f) (hP : hereC s.1 z f = -1) {br : Int} (hbr : InR br) : RUNM G l (d + 1) mX2_readCloser [.ref a, .int (J br)] h (fun v h' => v = some .null ∧ h' = h) := by
  obtain ⟨⟨h1, h2⟩, h3, h4⟩ := hs
  have hf' : ∀ q, InR (f q) := fun q => by have := hf q; exact ⟨by omega, by omega⟩
  have hp : InR s.1 := ⟨by omega, by omega⟩
  have he : InR s.2 := ⟨by omega, by omega⟩
  have hz' : InR z := ⟨by omega, by omega⟩
  have hh : -1 ≤ hereC s.1 z f := by
    unfold hereC; split
    · have := hf s.1.toNat; omega
    · omega
  have ho : InR o := ⟨by omega, by omega⟩
  refine RUNM.of (by decide +kernel) (Nat.le_of_ble_eq_true rfl) ?_
  refine r_aload_n (pc := 0) dX2_readCloser_0 rfl (by first | rfl | exact isRefV_rf _) ?_
  refine r_callV0 (pc := 1) dX2_readCloser_1 qX2_here kX2_34 vX2_here (by first | assumption | exact isI.gx (by assumption) | exact isI.gc (by assumption) | exact isW.gx (by assumption) | exact isW.gF (by assumption) | exact isW.gT (by assumption) (by omega) | exact isW.gS (by assumption) (by omega) | exact isW.gK (by assumption) (by omega) | exact isW.g1 (by assumption) | exact isW.g2 (by assumption) | exact isW.g3 (by assumption) | exact isI.gx (isW.i0 (by assumption)) | exact isI.gc (isW.i0 (by assumption)) | exact isI.gx (isW.i1 (by assumption)) | exact isI.gc (isW.i1 (by assumption)) | exact isI.gx (isW.i2 (by assumption)) | exact isI.gc (isW.i2 (by assumption)) | exact isI.gx (isW.i3 (by assumption)) | exact isI.gc (isW.i3 (by assumption)) | exact isI.gx (isW.i4 (by assumption)) | exact isI.gc (isW.i4 (by assumption)) | exact isI.gx (isW.i5 (by assumption)) | exact isI.gc (isW.i5 (by assumption)) | exact isR.gx (by assumption) | exact isRd.gx (by assumption) | exact isSp.gx (by assumption) | exact isI.gx (isR.i (by assumption)) | exact isI.gx (isRd.i (by assumption)) | exact isI.gc (isRd.i (by assumption)) | exact isI.gx (isSp.i (by assumption)) | exact isW.gx (isR.w (by assumption)) | exact isW.gF (isR.w (by assumption)) | fail "no such object") rfl rfl (Nat.le_of_ble_eq_true rfl) (cd_here _ hD hp he ho hz' hf') (fun v_1 h_1 q_1 => ?_)
  obtain ⟨rfl, rfl⟩ := q_1
  have rh := hereC_r (p := s.1) (z := z) hf'
  refine rj_bipush (pc := 4) dX2_readCloser_4 (by decide +kernel) ?_
  refine rj_icmp_ne (pc := 6) (tgt := 14) dX2_readCloser_6 (by decide) (by first | exact b01_r | exact bz_r | omega | (constructor <;> omega) | apply_assumption | (apply atF_r; assumption) | fail "no range") (by first | exact b01_r | exact bz_r | omega | (constructor <;> omega) | apply_assumption | (apply atF_r; assumption) | fail "no range") (fun c_6 => ?_) (fun c_6 => ?_)
  · refine r_null (pc := 14) dX2_readCloser_14 ?_
    refine r_areturn (pc := 15) _ dX2_readCloser_15 rfl (Or.inl ⟨_, rfl⟩) (by first | rfl | exact isRefV_rf _) ?_
    exact ⟨rfl, rfl⟩
  · refine r_iload_n (pc := 9) dX2_readCloser_9 rfl ?_
    refine rj_iconst (pc := 10) dX2_readCloser_10 ?_
    refine rj_icmp_lt (pc := 11) (tgt := 16) dX2_readCloser_11 (by decide) (by first | exact b01_r | exact bz_r | omega | (constructor <;> omega) | apply_assumption | (apply atF_r; assumption) | fail "no range") (by first | exact b01_r | exact bz_r | omega | (constructor <;> omega) | apply_assumption | (apply atF_r; assumption) | fail "no range") (fun c_11 => ?_) (fun c_11 => ?_)
    · exfalso; omega
    · refine r_null (pc := 14) dX2_readCloser_14 ?_
      refine r_areturn (pc := 15) _ dX2_readCloser_15 rfl (Or.inl ⟨_, rfl⟩) (by first | rfl | exact isRefV_rf _) ?_
      exact ⟨rfl, rfl⟩
theorem va_rf_i {r s : Option Nat} (h : va_rf r = va_rf s) : r = s := by
  cases r <;> cases s
  · rfl
  · cases h
  · cases h
  · injection h with h; rw [h]
section RDS
variable {z : Int} {f : Nat → Int}
theorem hereC_n {p : Nat} {c : Int} (hz : z ≤ 120) (h : hereC p z f = c) (hc : ¬ c = -1) : clip f z p = c := by
  rw [hereC_f (by omega) hz] at h
  exact here_c (a := (p : Int)) (by omega) h hc
theorem okc {k : Int} {p : Nat} (hz : z ≤ 120) (h : 48 ≤ clip f z p ∧ clip f z p < 48 + k) : fgU z f k p = clip f z p - 48 ∧ fgM z f k ((p : Int), -1) = (((p + 1 : Nat) : Int), -1) := by
  have v := hereC_v hz (rfl : clip f z p = _) (by omega)
  constructor
  · unfold fgU; rw [v, if_pos (by omega)]
  · unfold fgM; dsimp only; rw [v, if_pos (by omega)]; rfl
theorem okx {c : Int} {p : Nat} (hz : z ≤ 120) (hc : ¬ c = 0) (h : clip f z p = c) : xpM z f c ((p : Int), -1) = (((p + 1 : Nat) : Int), -1) := by
  unfold xpM; dsimp only; rw [hereC_v hz h hc, if_pos rfl]; rfl
theorem okn {p e : Nat} (hz : z ≤ 120) (h : namS (clip f z) p e) : (97 ≤ hereC p z f ∧ hereC p z f ≤ 122) ∧ nmM z f ((p : Int), -1) = ((e : Int), -1) ∧ (rnL z f 7 p 0).1 = nmY (clip f z) p e := by
  have l0 := h.2.2.1 p (Nat.le_refl _) h.1
  have c := (hereC_l hz).mpr l0
  have y := rnL_w hz h
  refine ⟨c, ?_, by rw [y]⟩
  unfold nmM; dsimp only; rw [if_pos c, y]
/-- a plain step that was read, by its text -/
theorem rdS_T {it bh : Bool} {q q' : PS} (h : rdS f z it bh q q') (h1 : ¬ clip f z q.1.toNat = 40) (h2 : ¬ clip f z q.1.toNat = 41) (h3 : ¬ clip f z q.1.toNat = 63) : q.1 < q'.1 ∧ q'.2.2.2.2 = q.2.2.2.2 ∧ stepT (clip f z) (someC (clip f z)) q.1.toNat q'.1.toNat := by
  obtain ⟨lt, h⟩ := h
  rcases h with ⟨-, -, a, b⟩ | ⟨-, a, b | b⟩ | ⟨-, -, a, -⟩ | ⟨-, -, a, -⟩
  · exact ⟨lt, a, b⟩
  · exact ⟨lt, a, b⟩
  · exact absurd b.1 h3
  · exact absurd a h1
  · exact absurd a h2
end RDS
/-- the end of a step whose reading made no other step -/
theorem rs_fin {z : Int} {f : Nat → Int} {a : Nat} {it : Bool} {o p : Nat} {K : Int × Int} {Rk : Bool × PS} {h h1 h' : mH} (hz : 0 ≤ z ∧ z ≤ 120) (hok : ok2 z K Rk) (hr : rgS z K) (hp : (p : Int) < z) (ho : o ≤ p) (F1 : FrR a h h1) (e2 : h1.2.1 = h.2.1 + 1) (Sm : Same (fun b => dBlk a b ∨ b = h.2.1) h1 h') (hD : isRd h' a K.1 K.2 o z f)
    (hs : Rk.1 = true → (p : Int) < Rk.2.1 ∧ Rk.2.2.2.2.2 = o ∧ stK (hGet h') (clip f z) (clX (hGet h') (clip f z)) it o h.2.1 none h'.2.1 p Rk.2.1.toNat o) : rsPost z f a it o p Rk h (some (.ref h.2.1)) h' := by
  have sz := Sm.2.1
  refine ⟨some h.2.1, rfl, F1.st (Nat.le_refl _) Sm, ?_⟩
  obtain ⟨⟨r1, r2⟩, r3, r4⟩ := hr
  rcases hok with ⟨g1, g2, g3⟩ | ⟨g1, g2, g3⟩
  · obtain ⟨s1, s2, s3⟩ := hs g1
    have k1 := congrArg Prod.fst g2
    have k2 := congrArg Prod.snd g2
    dsimp only at k1 k2
    rw [k1, k2] at hD
    exact Or.inl ⟨g1, g3, rfl, Rk.2.1.toNat, o, by omega, s2, by rw [show ((Rk.2.1.toNat : Nat) : Int) = Rk.2.1 by omega]; exact hD, by omega, by omega, by omega, fun _ => rfl, by omega, s3⟩
  · have k1 := congrArg Prod.fst g2
    have k2 := congrArg Prod.snd g2
    dsimp only at k1 k2
    rw [k1, k2] at hD
    exact Or.inr ⟨g1, z, Rk.2.2.1, o, hD, ⟨⟨hz.1, Int.le_refl _⟩, by dsimp only; omega, by dsimp only; omega⟩, ⟨by omega, by omega⟩, by omega, g3, Or.inl ⟨rfl, rfl⟩⟩
theorem rdn_zero {G : mG} {l : Launch} {z : Int} {f : Nat → Int} {a : Nat} : RDN G l z f a 0 := by
  intro w it bh gd h p o q hg hw hit hn
  exfalso
  cases bh
  · rw [if_neg (by decide)] at hn; omega
  · rw [if_pos rfl] at hn; omega
theorem stepN_s {sr : Nat → Int} {len : Int} {n : Nat} {w : Int} {it bh : Bool} {q : PS} : stepN sr len (n + 1) w it bh q = stepR sr len (takeG sr len (stepsR sr len (stepN sr len n (w + 1) false false)) w) (stepN sr len n w false true) it bh q := rfl
theorem stepR_y {sr : Nat → Int} {len : Int} {take inner : PS → Bool × PS} {it bh : Bool} {q : PS} (h : stepOk (hereF sr len q.1) it bh q) : stepR sr len take inner it bh q = stepG sr len take inner (hereF sr len q.1) (advF q) := by
  unfold stepR; rw [if_pos h]
theorem stepR_n {sr : Nat → Int} {len : Int} {take inner : PS → Bool × PS} {it bh : Bool} {q : PS} (h : ¬ stepOk (hereF sr len q.1) it bh q) : stepR sr len take inner it bh q = (false, failF q.1 q) := by
  unfold stepR; rw [if_neg h]
section SG
variable {sr : Nat → Int} {len : Int} {take inner : PS → Bool × PS} {q : PS}
theorem sg43 : stepG sr len take inner 43 q = andR (andR (nR sr len 1 0 7 q) (gR sr len 61)) (vR sr len) := by unfold stepG; rw [if_pos rfl]
theorem sg33 : stepG sr len take inner 33 q = nR sr len 2 1 99 q := by unfold stepG; rw [if_neg (by decide), if_pos rfl]
theorem sg97 : stepG sr len take inner 97 q = take q := by unfold stepG; rw [if_neg (by decide), if_neg (by decide), if_pos rfl]
theorem sg120 : stepG sr len take inner 120 q = aR sr len q := by unfold stepG; rw [if_neg (by decide), if_neg (by decide), if_neg (by decide), if_pos rfl]
theorem sg109 : stepG sr len take inner 109 q = andR (andR (aR sr len q) (gR sr len 62)) (nR sr len 2 0 99) := by unfold stepG; rw [if_neg (by decide), if_neg (by decide), if_neg (by decide), if_neg (by decide), if_pos rfl]
theorem sg107 : stepG sr len take inner 107 q = nR sr len 1 0 9 q := by unfold stepG; rw [if_neg (by decide), if_neg (by decide), if_neg (by decide), if_neg (by decide), if_neg (by decide), if_pos rfl]
theorem sg63 : stepG sr len take inner 63 q = andR (andR (andR (andR (nR sr len 1 0 7 q) (gR sr len 60)) (vR sr len)) (gR sr len 58)) inner := by unfold stepG; rw [if_neg (by decide), if_neg (by decide), if_neg (by decide), if_neg (by decide), if_neg (by decide), if_neg (by decide), if_pos rfl]
theorem sgE {c : Int} (h : ¬ c = 43 ∧ ¬ c = 33 ∧ ¬ c = 97 ∧ ¬ c = 120 ∧ ¬ c = 109 ∧ ¬ c = 107 ∧ ¬ c = 63) : stepG sr len take inner c q = (true, openF c q) := by
  obtain ⟨a1, a2, a3, a4, a5, a6, a7⟩ := h
  unfold stepG; rw [if_neg a1, if_neg a2, if_neg a3, if_neg a4, if_neg a5, if_neg a6, if_neg a7]
end SG
section RDNS
variable {G : mG} {l : Launch} {z : Int} {f : Nat → Int} {a n : Nat}
/-- all that is at hand when a step's first byte has been read -/
theorem rdn_simple {it bh : Bool} {w : Nat} {h h1 : mH} {p o : Nat} {q : PS} {kd : Int} (hz : 0 ≤ z ∧ z ≤ 120) (hf : bytesOk f) (hib : it = true → bh = false) (ha : a + 3 ≤ h.2.1) (q1 : q.1 = p) (q2 : q.2.1 = -1) (q3 : q.2.2.2.2 = o) (hp1 : (p : Int) < z) (ho1 : o ≤ p) (hkd : clip f z p = kd) (hF : hereF f z q.1 = kd) (so : stepOk (hereF f z q.1) it bh q)
    (D1 : isRd h1 a ((p : Int) + 1) (-1) o z f) (O1 : hGet h1 h.2.1 = some (stO kd 0 0 0 none none)) (F1 : FrR a h h1) (e2 : h1.2.1 = h.2.1 + 1) (hlo : h1.1 ≤ h.2.1) {br gd : Int} (hbr : InR br) (d : Nat) :
    (kd = 43 → RUN G l (d + 3) mX2_readStep 128 [some (.ref a), some (.int (J br)), some (.int (J gd)), some (.int (J kd)), some (.ref h.2.1)] [] h1 (fun v h' => rsPost z f a it o p (stepN f z (n + 1) w it bh q) h v h')) ∧
    (kd = 33 → RUN G l (d + 3) mX2_readStep 157 [some (.ref a), some (.int (J br)), some (.int (J gd)), some (.int (J kd)), some (.ref h.2.1)] [] h1 (fun v h' => rsPost z f a it o p (stepN f z (n + 1) w it bh q) h v h')) ∧
    (kd = 120 → RUN G l (d + 3) mX2_readStep 191 [some (.ref a), some (.int (J br)), some (.int (J gd)), some (.int (J kd)), some (.ref h.2.1)] [] h1 (fun v h' => rsPost z f a it o p (stepN f z (n + 1) w it bh q) h v h')) ∧
    (kd = 109 → RUN G l (d + 3) mX2_readStep 203 [some (.ref a), some (.int (J br)), some (.int (J gd)), some (.int (J kd)), some (.ref h.2.1)] [] h1 (fun v h' => rsPost z f a it o p (stepN f z (n + 1) w it bh q) h v h')) ∧
    (kd = 107 → RUN G l (d + 3) mX2_readStep 231 [some (.ref a), some (.int (J br)), some (.int (J gd)), some (.int (J kd)), some (.ref h.2.1)] [] h1 (fun v h' => rsPost z f a it o p (stepN f z (n + 1) w it bh q) h v h')) ∧
    (kd = 40 → RUN G l (d + 3) mX2_readStep 291 [some (.ref a), some (.int (J br)), some (.int (J gd)), some (.int (J kd)), some (.ref h.2.1)] [] h1 (fun v h' => rsPost z f a it o p (stepN f z (n + 1) w it bh q) h v h')) ∧
    (kd = 41 → RUN G l (d + 3) mX2_readStep 304 [some (.ref a), some (.int (J br)), some (.int (J gd)), some (.int (J kd)), some (.ref h.2.1)] [] h1 (fun v h' => rsPost z f a it o p (stepN f z (n + 1) w it bh q) h v h')) ∧
    (kd = 46 → RUN G l (d + 3) mX2_readStep 317 [some (.ref a), some (.int (J br)), some (.int (J gd)), some (.int (J kd)), some (.ref h.2.1)] [] h1 (fun v h' => rsPost z f a it o p (stepN f z (n + 1) w it bh q) h v h')) := by
  have ho : InR (o : Int) := ⟨by omega, by omega⟩
  have hst : ¬ dBlk a h.2.1 := by unfold dBlk; omega
  have hs : rgS z (((p + 1 : Nat) : Int), -1) := ⟨⟨by dsimp only; omega, by dsimp only; omega⟩, by dsimp only; omega, by dsimp only; omega⟩
  have D1' : isRd h1 a (((p + 1 : Nat) : Int), (-1 : Int)).1 (((p + 1 : Nat) : Int), (-1 : Int)).2 o z f := D1
  have u0 : 0 ≤ (advF q).1 := by show 0 ≤ q.1 + 1; omega
  have u1 : (advF q).1 = ((p + 1 : Nat) : Int) := by show q.1 + 1 = _; omega
  have u2 : (advF q).2.1 = -1 := q2
  have u3 : (advF q).2.2.2.2 = o := q3
  have qp : q.1.toNat = p := by omega
  have eR : stepN f z (n + 1) w it bh q = stepG f z (takeG f z (stepsR f z (stepN f z n ((w : Int) + 1) false false)) w) (stepN f z n w false true) kd (advF q) := by rw [stepN_s, stepR_y so, hF]
  have rd : (stepN f z (n + 1) w it bh q).1 = true → rdS f z it bh q (stepN f z (n + 1) w it bh q).2 := stepN_rd (n + 1) w it bh q hib (by omega) (by omega)
  have T : ∀ {h' : mH}, Same (fun b => dBlk a b ∨ b = h.2.1) h1 h' → h.2.1 < h'.2.1 := fun S => by have := S.2.1; omega
  refine ⟨fun k => ?_, fun k => ?_, fun k => ?_, fun k => ?_, fun k => ?_, fun k => ?_, fun k => ?_, fun k => ?_⟩
  · subst k
    refine (rk_plus (G := G) (l := l) d (br := br) (gd := gd) D1' hs ho hz hf hst hlo O1).mono (fun v h' g => ?_)
    obtain ⟨rfl, g1, g2, g3⟩ := g
    have o1 := ok_fig (f := f) (k := 7) (q := advF q) u0 hz.2 u2 (by decide)
    rw [u1] at o1
    have o2 := ok2_and (K2 := xpM z f 61) (R2 := gR f z 61) o1 (xpM_i (by decide)) (fun b c => ok_exp (by have := (nR_rd (sr := f) (len := z) u0 (by decide) b).2.1; omega) hz.2 c)
    have o3 := ok2_and (K2 := vlM z f) (R2 := vR f z) o2 vlM_i (fun b c => ok_val (by
      obtain ⟨b1, b2, b3⟩ := andR_s b
      rw [b3, (gR_rd (by have := (nR_rd (sr := f) (len := z) u0 (by decide) b1).2.1; omega) (by decide) b2).2]
      have := (nR_rd (sr := f) (len := z) u0 (by decide) b1).2.1
      show (0 : Int) ≤ (nR f z 1 0 7 (advF q)).2.1 + 1
      omega) hz.2 c)
    rw [eR, sg43]
    rw [eR, sg43] at rd
    refine rs_fin hz o3 (vlM_r (xpM_r (fgM_r hs hz.2 (by decide)) hz.2 (by decide)) hz.2) hp1 ho1 F1 e2 g3 g1 (fun b => ?_)
    obtain ⟨t1, t2, t3⟩ := rdS_T (rd b) (by rw [qp, hkd]; decide) (by rw [qp, hkd]; decide) (by rw [qp, hkd]; decide)
    rw [q3] at t2
    rw [qp] at t3
    refine ⟨by omega, t2, Or.inl ⟨Or.inl ⟨T g3, _, _, _, _, by rw [hkd]; exact g2, Or.inl ?_⟩, rfl⟩⟩
    rcases t3 with t | t | t | t | t | t | t
    · obtain ⟨-, b1, b2, b3⟩ := t
      obtain ⟨c1, c2⟩ := okc (f := f) (k := 8) (p := p + 1) hz.2 ⟨by omega, by omega⟩
      have c3 := okx (f := f) (c := 61) (p := p + 1 + 1) hz.2 (by decide) b2
      refine ⟨hkd, b1, b2, b3, c1, ?_⟩
      rw [c2, c3]
      exact rvV_a hz.2 (p + 3)
    all_goals (exfalso; have := t.1; omega)
  · subst k
    refine (rk_bang (G := G) (l := l) d (br := br) (gd := gd) D1' hs ho hz hf hst hlo O1).mono (fun v h' g => ?_)
    obtain ⟨rfl, g1, g2, g3⟩ := g
    have o1 := ok_fn (f := f) (q := advF q) u0 hz.2 u2
    rw [u1] at o1
    rw [eR, sg33]
    rw [eR, sg33] at rd
    refine rs_fin hz o1 (fnM_r hs hz.2) hp1 ho1 F1 e2 g3 g1 (fun b => ?_)
    obtain ⟨t1, t2, t3⟩ := rdS_T (rd b) (by rw [qp, hkd]; decide) (by rw [qp, hkd]; decide) (by rw [qp, hkd]; decide)
    rw [q3] at t2
    rw [qp] at t3
    refine ⟨by omega, t2, Or.inl ⟨Or.inl ⟨T g3, _, _, _, _, by rw [hkd]; exact g2, Or.inr (Or.inl ?_)⟩, rfl⟩⟩
    rcases t3 with t | t | t | t | t | t | t
    · exfalso; have := t.1; omega
    · exact ⟨hkd, t.2, rfL_a hz.2 2 (p + 1) 0⟩
    all_goals (exfalso; have := t.1; omega)
  · subst k
    refine (rk_close (G := G) (l := l) d (br := br) (gd := gd) D1' hs ho hz hf hst hlo O1).mono (fun v h' g => ?_)
    obtain ⟨rfl, y, gy, g1, g2, g3⟩ := g
    have o1 := ok_name (f := f) (q := advF q) u0 hz.2 u2
    rw [u1] at o1
    rw [eR, sg120]
    rw [eR, sg120] at rd
    refine rs_fin hz o1 (nmM_r hs hz.2) hp1 ho1 F1 e2 g3 g1 (fun b => ?_)
    obtain ⟨t1, t2, t3⟩ := rdS_T (rd b) (by rw [qp, hkd]; decide) (by rw [qp, hkd]; decide) (by rw [qp, hkd]; decide)
    rw [q3] at t2
    rw [qp] at t3
    refine ⟨by omega, t2, Or.inl ⟨Or.inl ⟨T g3, _, _, _, _, by rw [hkd]; exact g2, Or.inr (Or.inr (Or.inr (Or.inl ?_)))⟩, rfl⟩⟩
    rcases t3 with t | t | t | t | t | t | t
    · exfalso; have := t.1; omega
    · exfalso; have := t.1; omega
    · exfalso; have := t.1; omega
    · obtain ⟨c1, c2, c3⟩ := okn hz.2 t.2
      exact ⟨hkd, t.2, by rw [gy c1]; exact c3⟩
    all_goals (exfalso; have := t.1; omega)
  · subst k
    refine (rk_move (G := G) (l := l) d (br := br) (gd := gd) D1' hs ho hz hf hst hlo O1).mono (fun v h' g => ?_)
    obtain ⟨rfl, y, gy, g1, g2, g3⟩ := g
    have o1 := ok_name (f := f) (q := advF q) u0 hz.2 u2
    rw [u1] at o1
    have o2 := ok2_and (K2 := xpM z f 62) (R2 := gR f z 62) o1 (xpM_i (by decide)) (fun b c => ok_exp (by have := (aR_rd (sr := f) (len := z) u0 b).2.1; omega) hz.2 c)
    have o3 := ok2_and (K2 := fsM z f 2) (R2 := nR f z 2 0 99) o2 fsM_i (fun b c => ok_figs (by
      obtain ⟨b1, b2, b3⟩ := andR_s b
      rw [b3, (gR_rd (by have := (aR_rd (sr := f) (len := z) u0 b1).2.1; omega) (by decide) b2).2]
      have := (aR_rd (sr := f) (len := z) u0 b1).2.1
      show (0 : Int) ≤ (aR f z (advF q)).2.1 + 1
      omega) hz.2 c)
    rw [eR, sg109]
    rw [eR, sg109] at rd
    refine rs_fin hz o3 (fsM_r (m := 2) (xpM_r (nmM_r hs hz.2) hz.2 (by decide)) hz.2) hp1 ho1 F1 e2 g3 g1 (fun b => ?_)
    obtain ⟨t1, t2, t3⟩ := rdS_T (rd b) (by rw [qp, hkd]; decide) (by rw [qp, hkd]; decide) (by rw [qp, hkd]; decide)
    rw [q3] at t2
    rw [qp] at t3
    refine ⟨by omega, t2, Or.inl ⟨Or.inl ⟨T g3, _, _, _, _, by rw [hkd]; exact g2, Or.inr (Or.inr (Or.inr (Or.inr (Or.inl ?_))))⟩, rfl⟩⟩
    rcases t3 with t | t | t | t | t | t | t
    · exfalso; have := t.1; omega
    · exfalso; have := t.1; omega
    · exfalso; have := t.1; omega
    · exfalso; have := t.1; omega
    · obtain ⟨-, e, b1, b2, b3⟩ := t
      obtain ⟨c1, c2, c3⟩ := okn hz.2 b1
      have c4 := okx (f := f) (c := 62) (p := e) hz.2 (by decide) b2
      refine ⟨hkd, e, b1, b2, b3, by rw [gy c1]; exact c3, ?_⟩
      rw [c2, c4]
      exact rfL_a hz.2 2 (e + 1) 0
    all_goals (exfalso; have := t.1; omega)
  · subst k
    refine (rk_cancel (G := G) (l := l) d (br := br) (gd := gd) D1' hs ho hz hf hst hlo O1).mono (fun v h' g => ?_)
    obtain ⟨rfl, g1, g2, g3⟩ := g
    have o1 := ok_fig (f := f) (k := 9) (q := advF q) u0 hz.2 u2 (by decide)
    rw [u1] at o1
    rw [eR, sg107]
    rw [eR, sg107] at rd
    refine rs_fin hz o1 (fgM_r hs hz.2 (by decide)) hp1 ho1 F1 e2 g3 g1 (fun b => ?_)
    obtain ⟨t1, t2, t3⟩ := rdS_T (rd b) (by rw [qp, hkd]; decide) (by rw [qp, hkd]; decide) (by rw [qp, hkd]; decide)
    rw [q3] at t2
    rw [qp] at t3
    refine ⟨by omega, t2, Or.inl ⟨Or.inl ⟨T g3, _, _, _, _, by rw [hkd]; exact g2, Or.inr (Or.inr (Or.inr (Or.inr (Or.inr (Or.inl ?_)))))⟩, rfl⟩⟩
    rcases t3 with t | t | t | t | t | t | t
    · exfalso; have := t.1; omega
    · exfalso; have := t.1; omega
    · exfalso; have := t.1; omega
    · exfalso; have := t.1; omega
    · exfalso; have := t.1; omega
    · have dg := t.2.1
      unfold dgP at dg
      exact ⟨hkd, t.2.1, t.2.2, (okc (f := f) (k := 10) (p := p + 1) hz.2 ⟨by omega, by omega⟩).1⟩
    · exfalso; have := t.1; omega
  · subst k
    refine (rk_open (G := G) (l := l) d (br := br) (gd := gd) D1' hs ho hz hf hst hlo O1).mono (fun v h' g => ?_)
    obtain ⟨rfl, g1, g2, g3⟩ := g
    have sz := g3.2.1
    rw [eR, sgE (by decide)]
    have c := so
    rw [hF] at c
    have hit : it = true := by
      rcases c with c | c | c | c | c | c | c | c | c
      all_goals first | exact absurd c (by decide) | exact absurd c.1 (by decide) | exact c.2
    refine ⟨some h.2.1, rfl, F1.st (Nat.le_refl _) g3, Or.inl ⟨rfl, q2, rfl, p + 1, o + 1, u1, ?_, by rw [show ((o + 1 : Nat) : Int) = (o : Int) + 1 by omega]; exact g1, by omega, by omega, by omega, fun g => absurd (hit.symm.trans g) (by decide), by omega, Or.inr (Or.inl ⟨hit, T g3, hkd, rfl, rfl, _, _, _, _, g2⟩)⟩⟩
    show q.2.2.2.2 + (if (40 : Int) = 40 then 1 else if (40 : Int) = 41 then -1 else 0) = _
    rw [if_pos rfl, q3]; omega
  · subst k
    refine (rk_shut (G := G) (l := l) d (br := br) (gd := gd) D1' hs ho hz hf hst hlo O1).mono (fun v h' g => ?_)
    obtain ⟨rfl, g1, g2, g3⟩ := g
    have sz := g3.2.1
    rw [eR, sgE (by decide)]
    have c := so
    rw [hF] at c
    have hit : it = true ∧ 0 < q.2.2.2.2 := by
      rcases c with c | c | c | c | c | c | c | c | ⟨c, hit⟩
      all_goals first | exact absurd c (by decide) | exact absurd c.1 (by decide) | skip
      rcases c with c | c
      · exact absurd c (by decide)
      · exact ⟨hit, c.2⟩
    have o1 : 1 ≤ o := by have := hit.2; omega
    refine ⟨some h.2.1, rfl, F1.st (Nat.le_refl _) g3, Or.inl ⟨rfl, q2, rfl, p + 1, o - 1, u1, ?_, by rw [show ((o - 1 : Nat) : Int) = (o : Int) - 1 by omega]; exact g1, by omega, by omega, by omega, fun g => absurd (hit.1.symm.trans g) (by decide), by omega, Or.inr (Or.inr ⟨hit.1, T g3, hkd, rfl, by omega, _, _, _, _, g2⟩)⟩⟩
    show q.2.2.2.2 + (if (41 : Int) = 40 then 1 else if (41 : Int) = 41 then -1 else 0) = _
    rw [if_neg (by decide), if_pos rfl, q3]; omega
  · subst k
    refine (rk_nop (G := G) (l := l) d (br := br) (gd := gd) D1' hs ho hz hf hst hlo O1).mono (fun v h' g => ?_)
    obtain ⟨rfl, g1, g2, g3⟩ := g
    have sz := g3.2.1
    rw [eR, sgE (by decide)]
    refine ⟨some h.2.1, rfl, F1.st (Nat.le_refl _) g3, Or.inl ⟨rfl, q2, rfl, p + 1, o, u1, ?_, g1, by omega, by omega, by omega, fun _ => rfl, by omega, Or.inl ⟨Or.inl ⟨T g3, _, _, _, _, by rw [hkd]; exact g2, Or.inr (Or.inr (Or.inr (Or.inr (Or.inr (Or.inr ⟨hkd, rfl⟩)))))⟩, rfl⟩⟩⟩
    show q.2.2.2.2 + (if (46 : Int) = 40 then 1 else if (46 : Int) = 41 then -1 else 0) = _
    rw [if_neg (by decide), if_neg (by decide), q3]; omega
/-- a fault in what stands in a step -/
theorem rdF_in {p p2 : Nat} {R : Bool × PS} {h h1 h2 : mH} (k : rdF z f a p2 R h1 h2) (e : (h1.2.1 : Int) + p ≤ h.2.1 + p2) : rdF z f a p R h h2 := by
  obtain ⟨P, E, o', k1, k2, k3, k4, k5⟩ := k
  exact ⟨P, E, o', k1, k2, k3, by omega, k5⟩
theorem rdn_take {it bh : Bool} {w : Nat} {h h1 : mH} {p o : Nat} {q : PS} (hR : RDN G l z f a n) (hz : 0 ≤ z ∧ z ≤ 120) (hf : bytesOk f) (hw : w ≤ 3) (hn : w ≤ 2 → 2 * (3 - (w + 1)) + 2 ≤ n) (ha : a + 3 ≤ h.2.1) (q1 : q.1 = p) (q2 : q.2.1 = -1) (q3 : q.2.2.2.2 = o) (hp1 : (p : Int) < z) (ho1 : o ≤ p) (hkd : clip f z p = 97) (hF : hereF f z q.1 = 97) (so : stepOk (hereF f z q.1) it bh q)
    (D1 : isRd h1 a ((p : Int) + 1) (-1) o z f) (O1 : hGet h1 h.2.1 = some (stO 97 0 0 0 none none)) (F1 : FrR a h h1) (e2 : h1.2.1 = h.2.1 + 1) (hlo : h1.1 ≤ h.2.1) {gd : Int} :
    RUN G l (3 * n + 4 + 3) mX2_readStep 169 [some (.ref a), some (.int (J (w : Int))), some (.int (J gd)), some (.int (J 97)), some (.ref h.2.1)] [] h1 (fun v h' => rsPost z f a it o p (stepN f z (n + 1) w it bh q) h v h') := by
  have ho : InR (o : Int) := ⟨by omega, by omega⟩
  have hst : ¬ dBlk a h.2.1 := by unfold dBlk; omega
  have hs : rgS z (((p + 1 : Nat) : Int), -1) := ⟨⟨by dsimp only; omega, by dsimp only; omega⟩, by dsimp only; omega, by dsimp only; omega⟩
  have D1' : isRd h1 a (((p + 1 : Nat) : Int), (-1 : Int)).1 (((p + 1 : Nat) : Int), (-1 : Int)).2 o z f := D1
  have u0 : 0 ≤ (advF q).1 := by show 0 ≤ q.1 + 1; omega
  have u1 : (advF q).1 = ((p + 1 : Nat) : Int) := by show q.1 + 1 = _; omega
  have u2 : (advF q).2.1 = -1 := q2
  have u3 : (advF q).2.2.2.2 = o := q3
  have eR : stepN f z (n + 1) w it bh q = andR (aR f z (advF q)) (closR f z (stepsR f z (stepN f z n ((w : Int) + 1) false false)) w) := by rw [stepN_s, stepR_y so, hF, sg97]; rfl
  have o1 := ok_name (f := f) (q := advF q) u0 hz.2 u2
  rw [u1] at o1
  have rM := nmM_r (f := f) hs hz.2
  obtain ⟨⟨m1, m2⟩, m3, m4⟩ := rM
  refine (rk_take (G := G) (l := l) (3 * n + 4) (br := (w : Int)) (gd := gd) D1' hs ho hz hf hst hlo O1
    (R := fun y r h2 => ∃ h3, FrR a h h3 ∧ h3.2.1 = h1.2.1 ∧ hGet h3 h.2.1 = some (stO 97 0 0 y none none) ∧ FrR a h3 h2 ∧ ((∃ p2 : Nat, (aR f z (advF q)).1 = true ∧ (aR f z (advF q)).2.1 = p2 ∧ p < p2 ∧ (p2 : Int) ≤ z ∧ (y = nmY (clip f z) (p + 1) p2) ∧ rcPost z f a o p2 (closR f z (stepsR f z (stepN f z n ((w : Int) + 1) false false)) w (aR f z (advF q)).2) h3 (some (va_rf r)) h2) ∨ ((aR f z (advF q)).1 = false ∧ r = none ∧ ∃ E, 0 ≤ (aR f z (advF q)).2.2.1 ∧ E = (aR f z (advF q)).2.2.1 ∧ E ≤ 120 ∧ isRd h2 a z E o z f ∧ h2.2.1 = h3.2.1)))
    (fun y h3 gy g1 g2 g3 => ?_) (fun y r h2 g => ?_)).mono (fun v h' g => ?_)
  · have fr : FrR a h h3 := F1.st (Nat.le_refl _) g3
    rcases o1 with ⟨b1, b2, b3⟩ | ⟨b1, b2, b3⟩
    · obtain ⟨n1, n2, n3⟩ := aR_rd u0 b1
      rw [show (advF q).1.toNat = p + 1 by omega] at n1
      obtain ⟨c1, c2, c3⟩ := okn hz.2 n1
      have k1 := congrArg Prod.fst b2
      have k2 := congrArg Prod.snd b2
      dsimp only at k1 k2
      have le := n1.1
      have ep : (aR f z (advF q)).2.1 = (((aR f z (advF q)).2.1.toNat : Nat) : Int) := by omega
      rw [k1, k2, ep] at g1
      have o3 : (aR f z (advF q)).2.2.2.2.2 = o := by rw [n3]; exact u3
      refine (rc_all hR hz hf (by have := g3.2.1; omega) hw hn ep b3 o3 (by omega) (by omega) g1).mono (fun v h2 g4 => ?_)
      obtain ⟨r, rfl, r1, r2⟩ := g4
      exact ⟨r, rfl, h3, fr, g3.2.1, g2, r1, Or.inl ⟨_, b1, ep, by omega, by omega, (gy c1).trans c3, r, rfl, r1, r2⟩⟩
    · have k1 := congrArg Prod.fst b2
      have k2 := congrArg Prod.snd b2
      dsimp only at k1 k2
      rw [k1, k2] at g1
      refine (rc_idle (G := G) (l := l) (3 * n + 4 + 1) (s := (z, (aR f z (advF q)).2.2.1)) g1 ⟨⟨hz.1, Int.le_refl _⟩, by dsimp only; omega, by dsimp only; omega⟩ ⟨by omega, by omega⟩ hz hf hereC_e ⟨by omega, by omega⟩).mono (fun v h2 g4 => ?_)
      obtain ⟨rfl, rfl⟩ := g4
      exact ⟨none, rfl, h2, fr, g3.2.1, g2, FrR.rf, Or.inr ⟨b1, rfl, _, b3, rfl, by omega, g1, rfl⟩⟩
  · obtain ⟨h3, f1, e3, g2, f2, g4⟩ := g
    have lo := D1.lo
    have x1 := f1.1
    have x2 := f2.1
    have x3 := F1.1
    exact ⟨(f2.2.2.2 h.2.1 (by omega) hst).trans g2, by omega⟩
  · obtain ⟨rfl, y, r, h2, gy, ⟨h3, f1, e3, g2, f2, g4⟩, g5, g6⟩ := g
    rw [eR]
    have x2 := f2.2.1
    have fin : FrR a h h' := (f1.tr f2).st (Nat.le_refl _) (g6.mono (fun b hb => Or.inr hb))
    have sz := g6.2.1
    have D6 : ∀ {P E : Int} {o9 : Int}, isRd h2 a P E o9 z f → isRd h' a P E o9 z f := fun k => k.keep2 g6.1 (fun b hb => g6.2.2.2 b (by unfold dBlk at hb; omega))
    refine ⟨some h.2.1, rfl, fin, ?_⟩
    rcases g4 with ⟨p2, a1, a2, a3, a4, rfl, r0, e0, r1, r2⟩ | ⟨a1, rfl, E, a2, a3, a4, a5, a6⟩
    · have er : r = r0 := by
        have := Option.some.inj e0
        exact va_rf_i this
      subst er
      rw [andR_t a1]
      obtain ⟨n1, n2, n3⟩ := aR_rd u0 a1
      rw [show (advF q).1.toNat = p + 1 by omega, a2, Int.toNat_natCast] at n1
      rcases r2 with ⟨b1, b2, b3, p', b4, b5, b6, b7, b8, b9⟩ | ⟨b1, b2⟩
      · refine Or.inl ⟨b1, b2, rfl, p', o, b4, b3, D6 b5, b6, by omega, by omega, fun _ => rfl, by omega, Or.inl ⟨Or.inl ⟨by omega, 0, 0, _, r, by rw [hkd]; exact g5, Or.inr (Or.inr (Or.inl ⟨hkd, p2, n1, rfl, ?_⟩))⟩, rfl⟩⟩
        rcases b9 with ⟨c1, c2, c3⟩ | ⟨c1, c2, r', c3, c4, c5, c6⟩
        · exact Or.inl ⟨c2, c3, c1⟩
        · refine Or.inr ⟨c2, r', h3.2.1, ?_, c5, c4, c3, c1, by omega⟩
          refine clX_c (Nat.le_of_eq sz.symm) (fun b b1 b2 => g6.2.2.2 b (by omega)) c6
      · obtain ⟨P, E, o', k1, k⟩ := rdF_in (p := p) (h := h) b2 (by omega)
        exact Or.inr ⟨b1, P, E, o', D6 k1, k.1, k.2.1, by have := k.2.2.1; omega, k.2.2.2⟩
    · rw [andR_f (by rw [a1]; decide)]
      exact Or.inr ⟨a1, z, E, o, D6 a5, ⟨⟨hz.1, Int.le_refl _⟩, by dsimp only; omega, by dsimp only; omega⟩, ⟨by omega, by omega⟩, by omega, a2, Or.inl ⟨rfl, a3⟩⟩
theorem rdn_if {w : Nat} {h h1 : mH} {p o : Nat} {q : PS} {it : Bool} (hR : RDN G l z f a n) (hz : 0 ≤ z ∧ z ≤ 120) (hf : bytesOk f) (hw : w ≤ 3) (hn : 2 * (3 - w) + 1 ≤ n) (ha : a + 3 ≤ h.2.1) (q1 : q.1 = p) (q2 : q.2.1 = -1) (q3 : q.2.2.2.2 = o) (hp1 : (p : Int) < z) (ho1 : o ≤ p) (hkd : clip f z p = 63) (hF : hereF f z q.1 = 63) (so : stepOk (hereF f z q.1) it false q)
    (D1 : isRd h1 a ((p : Int) + 1) (-1) o z f) (O1 : hGet h1 h.2.1 = some (stO 63 0 0 0 none none)) (F1 : FrR a h h1) (e2 : h1.2.1 = h.2.1 + 1) (hlo : h1.1 ≤ h.2.1) {gd : Int} :
    RUN G l (3 * n + 4 + 3) mX2_readStep 245 [some (.ref a), some (.int (J (w : Int))), some (.int (J gd)), some (.int (J 63)), some (.ref h.2.1)] [] h1 (fun v h' => rsPost z f a it o p (stepN f z (n + 1) w it false q) h v h') := by
  have ho : InR (o : Int) := ⟨by omega, by omega⟩
  have hst : ¬ dBlk a h.2.1 := by unfold dBlk; omega
  have hs : rgS z (((p + 1 : Nat) : Int), -1) := ⟨⟨by dsimp only; omega, by dsimp only; omega⟩, by dsimp only; omega, by dsimp only; omega⟩
  have D1' : isRd h1 a (((p + 1 : Nat) : Int), (-1 : Int)).1 (((p + 1 : Nat) : Int), (-1 : Int)).2 o z f := D1
  have u0 : 0 ≤ (advF q).1 := by show 0 ≤ q.1 + 1; omega
  have u1 : (advF q).1 = ((p + 1 : Nat) : Int) := by show q.1 + 1 = _; omega
  have u2 : (advF q).2.1 = -1 := q2
  have u3 : (advF q).2.2.2.2 = o := q3
  obtain ⟨R4, hR4⟩ : ∃ R4, R4 = andR (andR (andR (nR f z 1 0 7 (advF q)) (gR f z 60)) (vR f z)) (gR f z 58) := ⟨_, rfl⟩
  have eR : stepN f z (n + 1) w it false q = andR R4 (stepN f z n w false true) := by rw [stepN_s, stepR_y so, hF, sg63, hR4]
  have o1 : ok2 z (fgM z f 8 (((p + 1 : Nat) : Int), -1)) (nR f z 1 0 7 (advF q)) := by
    have x := ok_fig (f := f) (k := 7) (q := advF q) u0 hz.2 u2 (by decide)
    rw [u1] at x
    exact x
  have o2 := ok2_and (K2 := xpM z f 60) (R2 := gR f z 60) o1 (xpM_i (by decide)) (fun b c => ok_exp (by have := (nR_rd (sr := f) (len := z) u0 (by decide) b).2.1; omega) hz.2 c)
  have o3 := ok2_and (K2 := vlM z f) (R2 := vR f z) o2 vlM_i (fun b c => ok_val (by
    obtain ⟨b1, b2, b3⟩ := andR_s b
    rw [b3, (gR_rd (by have := (nR_rd (sr := f) (len := z) u0 (by decide) b1).2.1; omega) (by decide) b2).2]
    have := (nR_rd (sr := f) (len := z) u0 (by decide) b1).2.1
    show (0 : Int) ≤ (nR f z 1 0 7 (advF q)).2.1 + 1
    omega) hz.2 c)
  /- what stands ahead of the inner step, when it was read -/
  have txt : (andR (andR (nR f z 1 0 7 (advF q)) (gR f z 60)) (vR f z)).1 = true → (48 ≤ clip f z (p + 1) ∧ clip f z (p + 1) ≤ 55) ∧ clip f z (p + 2) = 60 ∧ (p + 3 : Int) < (andR (andR (nR f z 1 0 7 (advF q)) (gR f z 60)) (vR f z)).2.1 ∧ sgnS (clip f z) (p + 3) (andR (andR (nR f z 1 0 7 (advF q)) (gR f z 60)) (vR f z)).2.1.toNat ∧ (andR (andR (nR f z 1 0 7 (advF q)) (gR f z 60)) (vR f z)).2.2.2.2.2 = o := fun b => by
    obtain ⟨x1, x2, x3⟩ := andR_s b
    obtain ⟨y1, y2, y3⟩ := andR_s x1
    rw [x3]
    rw [y3] at x2 ⊢
    obtain ⟨n1, n2, n3⟩ := nR_rd u0 (by decide) y1
    obtain ⟨g1, g2⟩ := gR_rd (by omega) (by decide) y2
    rw [g2] at x2 ⊢
    have e3 : (advF (nR f z 1 0 7 (advF q)).2).1 = (nR f z 1 0 7 (advF q)).2.1 + 1 := rfl
    have e4 : (advF (nR f z 1 0 7 (advF q)).2).2.2.2.2 = (nR f z 1 0 7 (advF q)).2.2.2.2.2 := rfl
    obtain ⟨w1, w2, w3⟩ := vR_rd (by omega) x2
    obtain ⟨m1, m2, m3⟩ := n1
    have ep : (nR f z 1 0 7 (advF q)).2.1.toNat = p + 2 := by omega
    have dg := m3 (p + 1) (by omega) (by omega)
    obtain ⟨d1, d2, d3, d4⟩ := nR_y y1
    have e5 : (numL f z 1 ((advF q).1, (advF q).2.1, 0, (advF q).2.2.2)).2.2.1 = 10 * 0 + hereF f z (advF q).1 - 48 := by
      unfold numL
      rw [if_pos d1]
      unfold numL
      rfl
    rw [e5] at d4
    have d7 := here_c u0 (rfl : hereF f z (advF q).1 = _) (by omega)
    rw [show (advF q).1.toNat = p + 1 by omega] at d7
    unfold dgP at dg
    refine ⟨⟨dg.1, by omega⟩, by rw [← ep]; exact g1, by omega, ?_, by rw [w3, e4, n3]; exact u3⟩
    rw [e3, show ((nR f z 1 0 7 (advF q)).2.1 + 1).toNat = p + 3 by omega] at w1
    exact w1
  have o4 := ok2_and (K2 := xpM z f 58) (R2 := gR f z 58) o3 (xpM_i (by decide)) (fun b c => ok_exp (by have := (txt b).2.2.1; omega) hz.2 c)
  rw [← hR4] at o4
  have txt4 : R4.1 = true → ∃ e : Nat, p + 3 < e ∧ R4.2.1 = ((e + 1 : Nat) : Int) ∧ R4.2.2.2.2.2 = o ∧ clip f z e = 58 ∧ sgnS (clip f z) (p + 3) e ∧ (48 ≤ clip f z (p + 1) ∧ clip f z (p + 1) ≤ 55) ∧ clip f z (p + 2) = 60 := fun b => by
    rw [hR4] at b ⊢
    obtain ⟨x1, x2, x3⟩ := andR_s b
    rw [x3]
    obtain ⟨t1, t2, t3, t4, t5⟩ := txt x1
    obtain ⟨g1, g2⟩ := gR_rd (by omega) (by decide) x2
    rw [g2]
    refine ⟨_, ?_, ?_, t5, g1, t4, t1, t2⟩
    · omega
    · show (andR (andR (nR f z 1 0 7 (advF q)) (gR f z 60)) (vR f z)).2.1 + 1 = _
      omega
  have rM := xpM_r (f := f) (k := 58) (vlM_r (f := f) (xpM_r (f := f) (k := 60) (fgM_r (f := f) (k := 8) hs hz.2 (by decide)) hz.2 (by decide)) hz.2) hz.2 (by decide)
  obtain ⟨⟨m1, m2⟩, m3, m4⟩ := rM
  refine (rk_if (G := G) (l := l) (3 * n + 4) (br := (w : Int)) (gd := gd) D1' hs ho hz hf hst hlo O1
    (R := fun r h2 => ∃ h3, FrR a h h3 ∧ h3.2.1 = h1.2.1 ∧ hGet h3 h.2.1 = some (stO 63 (fgU z f 8 ((p + 1 : Nat) : Int)) (rvV (xpM z f 60 (fgM z f 8 (((p + 1 : Nat) : Int), -1))).1 z f) 0 none none) ∧ FrR a h3 h2 ∧ ((∃ p2 : Nat, R4.1 = true ∧ R4.2.1 = p2 ∧ p < p2 ∧ (p2 : Int) ≤ z ∧ rsPost z f a false o p2 (stepN f z n w false true R4.2) h3 (some (va_rf r)) h2) ∨ (R4.1 = false ∧ r = none ∧ ∃ E, 0 ≤ R4.2.2.1 ∧ E = R4.2.2.1 ∧ E ≤ 120 ∧ isRd h2 a z E o z f ∧ h2.2.1 = h3.2.1)))
    (fun h3 g1 g2 g3 => ?_) (fun r h2 g => ?_)).mono (fun v h' g => ?_)
  · have fr : FrR a h h3 := F1.st (Nat.le_refl _) g3
    rcases o4 with ⟨b1, b2, b3⟩ | ⟨b1, b2, b3⟩
    · obtain ⟨e, t1, t2, t3, t4, t5, t6⟩ := txt4 b1
      have k1 := congrArg Prod.fst b2
      have k2 := congrArg Prod.snd b2
      dsimp only at k1 k2
      rw [k1, k2, t2] at g1
      refine ((hR w false true 1 h3 (e + 1) o R4.2 ⟨fun _ => rfl, fun g => absurd g (by decide)⟩ hw ⟨fun g => absurd g (by decide), fun g => absurd g.2 (by decide)⟩ (by rw [if_pos rfl]; exact hn) t2 b3 t3 (by omega) (by omega) g1 (by have := g3.2.1; omega)).deeper (by omega)).mono (fun v h2 g4 => ?_)
      obtain ⟨r, rfl, r1, r2⟩ := g4
      exact ⟨r, rfl, h3, fr, g3.2.1, g2, r1, Or.inl ⟨_, b1, t2, by omega, by omega, r, rfl, r1, r2⟩⟩
    · have k1 := congrArg Prod.fst b2
      have k2 := congrArg Prod.snd b2
      dsimp only at k1 k2
      rw [k1, k2] at g1
      refine (rd_stepNot (G := G) (l := l) (3 * n + 4 + 1) g1 ⟨by omega, by omega⟩ ⟨by omega, by omega⟩ ho ⟨by omega, by omega⟩ (fun j => by have := hf j; exact ⟨by omega, by omega⟩) (br := (w : Int)) (gd := 1) ⟨by omega, by omega⟩ ⟨by decide, by decide⟩ (by rw [hereC_e]; unfold mbP; omega)).mono (fun v h2 g4 => ?_)
      obtain ⟨rfl, g5, g6⟩ := g4
      rw [ftE_s b3] at g5
      exact ⟨none, rfl, h3, fr, g3.2.1, g2, FrR.sm g6, Or.inr ⟨b1, rfl, _, b3, rfl, by omega, g5, g6.2.1⟩⟩
  · obtain ⟨h3, f1, e3, g2, f2, g4⟩ := g
    have x1 := f1.1
    have x2 := f2.1
    have x3 := F1.1
    exact ⟨(f2.2.2.2 h.2.1 (by omega) hst).trans g2, by omega⟩
  · obtain ⟨rfl, r, h2, ⟨h3, f1, e3, g2, f2, g4⟩, g5, g6⟩ := g
    rw [eR]
    have x2 := f2.2.1
    have fin : FrR a h h' := (f1.tr f2).st (Nat.le_refl _) (g6.mono (fun b hb => Or.inr hb))
    have sz := g6.2.1
    have D6 : ∀ {P E : Int} {o9 : Int}, isRd h2 a P E o9 z f → isRd h' a P E o9 z f := fun k => k.keep2 g6.1 (fun b hb => g6.2.2.2 b (by unfold dBlk at hb; omega))
    refine ⟨some h.2.1, rfl, fin, ?_⟩
    rcases g4 with ⟨p2, a1, a2, a3, a4, r0, e0, r1, r2⟩ | ⟨a1, rfl, E, a2, a3, a4, a5, a6⟩
    · have er : r = r0 := va_rf_i (Option.some.inj e0)
      subst er
      rw [andR_t a1]
      obtain ⟨e, t1, t2, t3, t4, t5, t6, t7⟩ := txt4 a1
      have ep : p2 = e + 1 := by omega
      subst ep
      rcases r2 with ⟨b1, b2, rfl, p', o', b3, b4, b5, b6, b7, b8, b9, c1, c2⟩ | ⟨b1, b2⟩
      · have oo := b9 rfl
        subst oo
        obtain ⟨c3, c4⟩ := okc (f := f) (k := 8) (p := p + 1) hz.2 ⟨by omega, by omega⟩
        have c5 := okx (f := f) (c := 60) (p := p + 1 + 1) hz.2 (by decide) t7
        rw [c3, c4, c5] at g5
        have c6 := rvV_a (f := f) hz.2 (p + 1 + 1 + 1)
        dsimp only at g5
        rw [c6] at g5
        have rd := stepN_rd (sr := f) (len := z) n w false true R4.2 (fun g => absurd g (by decide)) (by omega) (by omega) b1
        obtain ⟨-, rd⟩ := rd
        have tT : stepT (clip f z) (someC (clip f z)) (e + 1) p' := by
          rcases rd with ⟨-, -, -, rd⟩ | ⟨rd, -⟩ | ⟨rd, -⟩ | ⟨rd, -⟩
          · rw [t2, b3, Int.toNat_natCast, Int.toNat_natCast] at rd; exact rd
          · cases rd
          · cases rd
          · cases rd
        have n63 : ¬ clip f z (e + 1) = 63 := fun g => by
          rcases tT with t | t | t | t | t | t | t
          all_goals (have := t.1; omega)
        have sA : stA (hGet h2) (clip f z) (clX (hGet h2) (clip f z)) h3.2.1 none h2.2.1 (e + 1) p' := by
          rcases c2 with ⟨k | k, -⟩ | ⟨k, -⟩ | ⟨k, -⟩
          · exact k
          · exact absurd k.2.1 n63
          · cases k
          · cases k
        have sA' : stA (hGet h') (clip f z) (clX (hGet h') (clip f z)) h3.2.1 none h'.2.1 (e + 1) p' := stA_c (Nat.le_of_eq sz.symm) (fun b q r x y => clX_c (Nat.le_of_eq sz.symm) (fun c u v => g6.2.2.2 c (by omega)) y) (fun kd num vl y inn g => (g6.2.2.2 h3.2.1 (by omega)).trans g) sA
        exact Or.inl ⟨b1, b2, rfl, p', o', b3, b4, D6 b5, b6, by omega, by omega, fun _ => rfl, by omega, Or.inl ⟨Or.inr ⟨by omega, hkd, t6, t7, e, h3.2.1, 0, none, g5, t5, t4, by omega, sA'⟩, rfl⟩⟩
      · obtain ⟨P, E, o', k1, k⟩ := rdF_in (p := p) (h := h) b2 (by omega)
        exact Or.inr ⟨b1, P, E, o', D6 k1, k.1, k.2.1, by have := k.2.2.1; omega, k.2.2.2⟩
    · rw [andR_f (by rw [a1]; decide)]
      exact Or.inr ⟨a1, z, E, o, D6 a5, ⟨⟨hz.1, Int.le_refl _⟩, by dsimp only; omega, by dsimp only; omega⟩, ⟨by omega, by omega⟩, by omega, a2, Or.inl ⟨rfl, a3⟩⟩
theorem mbP_46 {kd br gd o : Int} (h : mbP kd br gd o) (k : ¬ kd = 43 ∧ ¬ kd = 33 ∧ ¬ kd = 97 ∧ ¬ kd = 120 ∧ ¬ kd = 109 ∧ ¬ kd = 107 ∧ ¬ kd = 63 ∧ ¬ kd = 40 ∧ ¬ kd = 41) : kd = 46 := by
  obtain ⟨k1, k2, k3, k4, k5, k6, k7, k8, k9⟩ := k
  rcases h with (k | k | k | k | k | k | k) | k | k | k
  · exact absurd k k1
  · exact absurd k k2
  · exact absurd k k3
  · exact absurd k k4
  · exact absurd k k5
  · exact absurd k k6
  · exact k
  · exact absurd k.1 k7
  · exact absurd k.1 k8
  · exact absurd k.1 k9
theorem mbP_n {kd br gd o : Int} (h : mbP kd br gd o) : ¬ kd = -1 := fun g => by
  subst g
  rcases h with (k | k | k | k | k | k | k) | k | k | k
  all_goals first | exact absurd k (by decide) | exact absurd k.1 (by decide)
theorem mbP_63 {br o : Int} (h : mbP 63 br 1 o) : False := by
  rcases h with (k | k | k | k | k | k | k) | k | k | k
  all_goals first | exact absurd k (by decide) | exact absurd k.1 (by decide) | exact absurd k.2 (by decide)
theorem mbP_so {kd gd : Int} {w o : Nat} {it bh : Bool} {q : PS} (hg : (bh = true → gd = 1) ∧ (bh = false → gd = 0)) (hit : it = true ↔ w = 0 ∧ bh = false) (q3 : q.2.2.2.2 = o) : mbP kd w gd o ↔ stepOk kd it bh q := by
  unfold mbP
  cases hb : bh with
  | true =>
    have g1 := hg.1 hb
    subst g1
    have itf : it = false := by
      cases hi : it with
      | false => rfl
      | true => have := (hit.mp hi).2; rw [hb] at this; cases this
    rw [itf]
    constructor
    · rintro ((k | k | k | k | k | k | k) | k | k | k)
      · exact Or.inl k
      · exact Or.inr (Or.inl k)
      · exact Or.inr (Or.inr (Or.inl k))
      · exact Or.inr (Or.inr (Or.inr (Or.inl k)))
      · exact Or.inr (Or.inr (Or.inr (Or.inr (Or.inl k))))
      · exact Or.inr (Or.inr (Or.inr (Or.inr (Or.inr (Or.inl k)))))
      · exact Or.inr (Or.inr (Or.inr (Or.inr (Or.inr (Or.inr (Or.inl k))))))
      · exact absurd k.2 (by decide)
      · exact absurd k.2.1 (by decide)
      · exact absurd k.2.1 (by decide)
    · rintro (k | k | k | k | k | k | k | ⟨-, k⟩ | ⟨-, k⟩)
      · exact Or.inl (Or.inl k)
      · exact Or.inl (Or.inr (Or.inl k))
      · exact Or.inl (Or.inr (Or.inr (Or.inl k)))
      · exact Or.inl (Or.inr (Or.inr (Or.inr (Or.inl k))))
      · exact Or.inl (Or.inr (Or.inr (Or.inr (Or.inr (Or.inl k)))))
      · exact Or.inl (Or.inr (Or.inr (Or.inr (Or.inr (Or.inr (Or.inl k))))))
      · exact Or.inl (Or.inr (Or.inr (Or.inr (Or.inr (Or.inr (Or.inr k))))))
      · cases k
      · cases k
  | false =>
    have g1 := hg.2 hb
    subst g1
    rw [hb] at hit
    have hw0 : it = true ↔ w = 0 := ⟨fun g => (hit.mp g).1, fun g => hit.mpr ⟨g, rfl⟩⟩
    constructor
    · rintro ((k | k | k | k | k | k | k) | k | k | k)
      · exact Or.inl k
      · exact Or.inr (Or.inl k)
      · exact Or.inr (Or.inr (Or.inl k))
      · exact Or.inr (Or.inr (Or.inr (Or.inl k)))
      · exact Or.inr (Or.inr (Or.inr (Or.inr (Or.inl k))))
      · exact Or.inr (Or.inr (Or.inr (Or.inr (Or.inr (Or.inl k)))))
      · exact Or.inr (Or.inr (Or.inr (Or.inr (Or.inr (Or.inr (Or.inl k))))))
      · exact Or.inr (Or.inr (Or.inr (Or.inr (Or.inr (Or.inr (Or.inr (Or.inl ⟨k.1, rfl⟩)))))))
      · exact Or.inr (Or.inr (Or.inr (Or.inr (Or.inr (Or.inr (Or.inr (Or.inr ⟨Or.inl k.1, hw0.mpr (by omega)⟩)))))))
      · exact Or.inr (Or.inr (Or.inr (Or.inr (Or.inr (Or.inr (Or.inr (Or.inr ⟨Or.inr ⟨k.1, by omega⟩, hw0.mpr (by omega)⟩)))))))
    · rintro (k | k | k | k | k | k | k | ⟨k, -⟩ | ⟨k, k2⟩)
      · exact Or.inl (Or.inl k)
      · exact Or.inl (Or.inr (Or.inl k))
      · exact Or.inl (Or.inr (Or.inr (Or.inl k)))
      · exact Or.inl (Or.inr (Or.inr (Or.inr (Or.inl k))))
      · exact Or.inl (Or.inr (Or.inr (Or.inr (Or.inr (Or.inl k)))))
      · exact Or.inl (Or.inr (Or.inr (Or.inr (Or.inr (Or.inr (Or.inl k))))))
      · exact Or.inl (Or.inr (Or.inr (Or.inr (Or.inr (Or.inr (Or.inr k))))))
      · exact Or.inr (Or.inl ⟨k, rfl⟩)
      · have := hw0.mp k2
        rcases k with k | k
        · exact Or.inr (Or.inr (Or.inl ⟨k, rfl, by omega⟩))
        · exact Or.inr (Or.inr (Or.inr ⟨k.1, rfl, by omega, by have := k.2; omega⟩))
theorem rdn_hn {w n : Nat} {bh : Bool} (hn : 2 * (3 - w) + (if bh = true then 1 else 2) ≤ n + 1) (g : w ≤ 2) : 2 * (3 - (w + 1)) + 2 ≤ n := by
  cases bh
  · rw [if_neg (by decide)] at hn; omega
  · rw [if_pos rfl] at hn; omega
set_option maxHeartbeats 4000000 in
theorem rdn_succ (hz : 0 ≤ z ∧ z ≤ 120) (hf : bytesOk f) (hR : RDN G l z f a n) : RDN G l z f a (n + 1) := by
  intro w it bh gd h p o q hg hw hit hn q1 q2 q3 hp1 ho1 hD ha
  have hib : it = true → bh = false := fun g => (hit.mp g).2
  have hf' : ∀ q, InR (f q) := fun q => by have := hf q; exact ⟨by omega, by omega⟩
  have ho : InR (o : Int) := ⟨by omega, by omega⟩
  have hF0 : hereC p z f = hereF f z q.1 := by rw [q1]; exact hereC_f (by omega) hz.2
  have hgd : InR gd := by
    cases bh
    · rw [hg.2 rfl]; decide
    · rw [hg.1 rfl]; decide
  have mb : mbP (hereC p z f) w gd o ↔ stepOk (hereF f z q.1) it bh q := by rw [hF0]; exact mbP_so hg hit q3
  by_cases so : stepOk (hereF f z q.1) it bh q
  · have m := mb.mpr so
    have hlt : (p : Int) < z := hereC_lt (f := f) (mbP_n m)
    have ck : clip f z p = hereC p z f := hereC_n hz.2 rfl (mbP_n m)
    obtain ⟨kd, hkd⟩ : ∃ kd, hereC p z f = kd := ⟨_, rfl⟩
    rw [hkd] at m ck
    have hF : hereF f z q.1 = kd := by rw [← hF0]; exact hkd
    refine rs_sw (G := G) (l := l) (3 * n + 5) hD ⟨by omega, by omega⟩ ⟨by decide, by decide⟩ ho ⟨by omega, by omega⟩ hf' ha (br := (w : Int)) (gd := gd) ⟨by omega, by omega⟩ hgd hkd m (fun tgt h1 hT D1 O1 e1 e2 e3 e4 => ?_)
    have lo := hD.lo
    have F1 : FrR a h h1 := ⟨e1, by omega, by omega, e4⟩
    obtain ⟨s1, s2, s3, s4, s5, s6, s7, s8⟩ := rdn_simple (G := G) (l := l) (n := n) (w := w) hz hf hib ha q1 q2 q3 hlt ho1 ck hF so D1 O1 F1 e2 (by omega) (br := (w : Int)) (gd := gd) ⟨by omega, by omega⟩ (3 * n + 4)
    rcases hT with ⟨k, rfl⟩ | ⟨k, rfl⟩ | ⟨k, rfl⟩ | ⟨k, rfl⟩ | ⟨k, rfl⟩ | ⟨k, rfl⟩ | ⟨k, rfl⟩ | ⟨k, rfl⟩ | ⟨k, rfl⟩ | ⟨k, rfl⟩
    · exact s1 k
    · exact s2 k
    · subst k
      exact rdn_take hR hz hf hw (rdn_hn hn) ha q1 q2 q3 hlt ho1 ck hF so D1 O1 F1 e2 (by omega)
    · exact s3 k
    · exact s4 k
    · exact s5 k
    · subst k
      have bf : bh = false := by
        cases hb : bh with
        | false => rfl
        | true =>
          have g1 := hg.1 hb
          rw [g1] at m
          exact (mbP_63 m).elim
      subst bf
      rw [if_neg (by decide)] at hn
      exact rdn_if hR hz hf hw (by omega) ha q1 q2 q3 hlt ho1 ck hF so D1 O1 F1 e2 (by omega)
    · exact s6 k
    · exact s7 k
    · exact s8 (mbP_46 m ⟨k.1, k.2.1, k.2.2.1, k.2.2.2.1, k.2.2.2.2.1, k.2.2.2.2.2.1, k.2.2.2.2.2.2.1, k.2.2.2.2.2.2.2.1, k.2.2.2.2.2.2.2.2⟩)
  · have m := fun g => so (mb.mp g)
    refine ((rd_stepNot (G := G) (l := l) (3 * n + 6) hD ⟨by omega, by omega⟩ ⟨by decide, by decide⟩ ho ⟨by omega, by omega⟩ hf' (br := (w : Int)) (gd := gd) ⟨by omega, by omega⟩ hgd m)).mono (fun v h' g => ?_)
    obtain ⟨rfl, g1, g2⟩ := g
    rw [ftE_n] at g1
    have eR : stepN f z (n + 1) w it bh q = (false, failF q.1 q) := by rw [stepN_s, stepR_n so]
    have e2 := failF_v (p := q.1) q2
    have sz := g2.2.1
    rw [eR]
    exact ⟨none, rfl, FrR.sm g2, Or.inr ⟨rfl, z, p, o, g1, ⟨⟨hz.1, Int.le_refl _⟩, by dsimp only; omega, by dsimp only; omega⟩, ⟨by omega, by omega⟩, by omega, by rw [e2]; omega, Or.inl ⟨rfl, by rw [e2]; exact q1.symm⟩⟩⟩
theorem rdn_all (hz : 0 ≤ z ∧ z ≤ 120) (hf : bytesOk f) : ∀ n, RDN G l z f a n
  | 0 => rdn_zero
  | n + 1 => rdn_succ hz hf (rdn_all hz hf n)
end RDNS


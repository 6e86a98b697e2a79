theorem va_rf_i {r s : Option Nat} (h : va_rf r = va_rf s) : r = s := by
  cases r <;> cases s
  · rfl
  · cases h
  · cases h
  · injection h with h; rw [h]
section RDS
variable {z : Int} {f : Nat → Int}
theorem hereC_n {p : Nat} {c : Int} (hz : z ≤ 120) (h : hereC p z f = c) (hc : ¬ c = -1) : clip f z p = c := by
  rw [hereC_f (by omega) hz] at h
  exact here_c (a := (p : Int)) (by omega) h hc
theorem okc {k : Int} {p : Nat} (hz : z ≤ 120) (h : 48 ≤ clip f z p ∧ clip f z p < 48 + k) : fgU z f k p = clip f z p - 48 ∧ fgM z f k ((p : Int), -1) = (((p + 1 : Nat) : Int), -1) := by
  have v := hereC_v hz (rfl : clip f z p = _) (by omega)
  constructor
  · unfold fgU; rw [v, if_pos (by omega)]
  · unfold fgM; dsimp only; rw [v, if_pos (by omega)]; rfl
theorem okx {c : Int} {p : Nat} (hz : z ≤ 120) (hc : ¬ c = 0) (h : clip f z p = c) : xpM z f c ((p : Int), -1) = (((p + 1 : Nat) : Int), -1) := by
  unfold xpM; dsimp only; rw [hereC_v hz h hc, if_pos rfl]; rfl
theorem okn {p e : Nat} (hz : z ≤ 120) (h : namS (clip f z) p e) : (97 ≤ hereC p z f ∧ hereC p z f ≤ 122) ∧ nmM z f ((p : Int), -1) = ((e : Int), -1) ∧ (rnL z f 7 p 0).1 = nmY (clip f z) p e := by
  have l0 := h.2.2.1 p (Nat.le_refl _) h.1
  have c := (hereC_l hz).mpr l0
  have y := rnL_w hz h
  refine ⟨c, ?_, by rw [y]⟩
  unfold nmM; dsimp only; rw [if_pos c, y]
/-- a plain step that was read, by its text -/
theorem rdS_T {it bh : Bool} {q q' : PS} (h : rdS f z it bh q q') (h1 : ¬ clip f z q.1.toNat = 40) (h2 : ¬ clip f z q.1.toNat = 41) (h3 : ¬ clip f z q.1.toNat = 63) : q.1 < q'.1 ∧ q'.2.2.2.2 = q.2.2.2.2 ∧ stepT (clip f z) (someC (clip f z)) q.1.toNat q'.1.toNat := by
  obtain ⟨lt, h⟩ := h
  rcases h with ⟨-, -, a, b⟩ | ⟨-, a, b | b⟩ | ⟨-, -, a, -⟩ | ⟨-, -, a, -⟩
  · exact ⟨lt, a, b⟩
  · exact ⟨lt, a, b⟩
  · exact absurd b.1 h3
  · exact absurd a h1
  · exact absurd a h2
end RDS
/-- the end of a step whose reading made no other step -/
theorem rs_fin {z : Int} {f : Nat → Int} {a : Nat} {it : Bool} {o p : Nat} {K : Int × Int} {Rk : Bool × PS} {h h1 h' : mH} (hz : 0 ≤ z ∧ z ≤ 120) (hok : ok2 z K Rk) (hr : rgS z K) (hp : (p : Int) < z) (ho : o ≤ p) (F1 : FrR a h h1) (e2 : h1.2.1 = h.2.1 + 1) (Sm : Same (fun b => dBlk a b ∨ b = h.2.1) h1 h') (hD : isRd h' a K.1 K.2 o z f)
    (hs : Rk.1 = true → (p : Int) < Rk.2.1 ∧ Rk.2.2.2.2.2 = o ∧ stK (hGet h') (clip f z) (clX (hGet h') (clip f z)) it o h.2.1 none h'.2.1 p Rk.2.1.toNat o) : rsPost z f a it o p Rk h (some (.ref h.2.1)) h' := by
  have sz := Sm.2.1
  refine ⟨some h.2.1, rfl, F1.st (Nat.le_refl _) Sm, ?_⟩
  obtain ⟨⟨r1, r2⟩, r3, r4⟩ := hr
  rcases hok with ⟨g1, g2, g3⟩ | ⟨g1, g2, g3⟩
  · obtain ⟨s1, s2, s3⟩ := hs g1
    have k1 := congrArg Prod.fst g2
    have k2 := congrArg Prod.snd g2
    dsimp only at k1 k2
    rw [k1, k2] at hD
    exact Or.inl ⟨g1, g3, rfl, Rk.2.1.toNat, o, by omega, s2, by rw [show ((Rk.2.1.toNat : Nat) : Int) = Rk.2.1 by omega]; exact hD, by omega, by omega, by omega, fun _ => rfl, by omega, s3⟩
  · have k1 := congrArg Prod.fst g2
    have k2 := congrArg Prod.snd g2
    dsimp only at k1 k2
    rw [k1, k2] at hD
    exact Or.inr ⟨g1, z, Rk.2.2.1, o, hD, ⟨⟨hz.1, Int.le_refl _⟩, by dsimp only; omega, by dsimp only; omega⟩, ⟨by omega, by omega⟩, by omega, g3, Or.inl ⟨rfl, rfl⟩⟩
theorem rdn_zero {G : mG} {l : Launch} {z : Int} {f : Nat → Int} {a : Nat} : RDN G l z f a 0 := by
  intro w it bh gd h p o q hg hw hit hn
  exfalso
  cases bh
  · rw [if_neg (by decide)] at hn; omega
  · rw [if_pos rfl] at hn; omega
theorem stepN_s {sr : Nat → Int} {len : Int} {n : Nat} {w : Int} {it bh : Bool} {q : PS} : stepN sr len (n + 1) w it bh q = stepR sr len (takeG sr len (stepsR sr len (stepN sr len n (w + 1) false false)) w) (stepN sr len n w false true) it bh q := rfl
theorem stepR_y {sr : Nat → Int} {len : Int} {take inner : PS → Bool × PS} {it bh : Bool} {q : PS} (h : stepOk (hereF sr len q.1) it bh q) : stepR sr len take inner it bh q = stepG sr len take inner (hereF sr len q.1) (advF q) := by
  unfold stepR; rw [if_pos h]
theorem stepR_n {sr : Nat → Int} {len : Int} {take inner : PS → Bool × PS} {it bh : Bool} {q : PS} (h : ¬ stepOk (hereF sr len q.1) it bh q) : stepR sr len take inner it bh q = (false, failF q.1 q) := by
  unfold stepR; rw [if_neg h]
section SG
variable {sr : Nat → Int} {len : Int} {take inner : PS → Bool × PS} {q : PS}
theorem sg43 : stepG sr len take inner 43 q = andR (andR (nR sr len 1 0 7 q) (gR sr len 61)) (vR sr len) := by unfold stepG; rw [if_pos rfl]
theorem sg33 : stepG sr len take inner 33 q = nR sr len 2 1 99 q := by unfold stepG; rw [if_neg (by decide), if_pos rfl]
theorem sg97 : stepG sr len take inner 97 q = take q := by unfold stepG; rw [if_neg (by decide), if_neg (by decide), if_pos rfl]
theorem sg120 : stepG sr len take inner 120 q = aR sr len q := by unfold stepG; rw [if_neg (by decide), if_neg (by decide), if_neg (by decide), if_pos rfl]
theorem sg109 : stepG sr len take inner 109 q = andR (andR (aR sr len q) (gR sr len 62)) (nR sr len 2 0 99) := by unfold stepG; rw [if_neg (by decide), if_neg (by decide), if_neg (by decide), if_neg (by decide), if_pos rfl]
theorem sg107 : stepG sr len take inner 107 q = nR sr len 1 0 9 q := by unfold stepG; rw [if_neg (by decide), if_neg (by decide), if_neg (by decide), if_neg (by decide), if_neg (by decide), if_pos rfl]
theorem sg63 : stepG sr len take inner 63 q = andR (andR (andR (andR (nR sr len 1 0 7 q) (gR sr len 60)) (vR sr len)) (gR sr len 58)) inner := by unfold stepG; rw [if_neg (by decide), if_neg (by decide), if_neg (by decide), if_neg (by decide), if_neg (by decide), if_neg (by decide), if_pos rfl]
theorem sgE {c : Int} (h : ¬ c = 43 ∧ ¬ c = 33 ∧ ¬ c = 97 ∧ ¬ c = 120 ∧ ¬ c = 109 ∧ ¬ c = 107 ∧ ¬ c = 63) : stepG sr len take inner c q = (true, openF c q) := by
  obtain ⟨a1, a2, a3, a4, a5, a6, a7⟩ := h
  unfold stepG; rw [if_neg a1, if_neg a2, if_neg a3, if_neg a4, if_neg a5, if_neg a6, if_neg a7]
end SG
section RDNS
variable {G : mG} {l : Launch} {z : Int} {f : Nat → Int} {a n : Nat}
end RDNS

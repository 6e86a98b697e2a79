section mg_9o
section TP
variable {z : Int} {f : Nat → Int}
theorem rnL_w (hz : z ≤ 120) {p e : Nat} (hn : namS (clip f z) p e) : rnL z f 7 p 0 = (nmY (clip f z) p e, (e : Int)) := by
  have y := rnL_v hz hn 7 0 (by omega)
  rw [if_pos (by have := hn.1; omega)] at y
  exact y
/-! numbers -/
theorem rfL_n (hz : z ≤ 120) : ∀ (n : Nat) (q : PS), 0 ≤ q.1 → rfL z f n q.1 q.2.2.1 = ((numL f z n q).2.2.1, (numL f z n q).1)
  | 0, q, _ => rfl
  | n + 1, q, h => by
    unfold rfL numL
    rw [hereC_f h hz]
    by_cases c : 48 ≤ hereF f z q.1 ∧ hereF f z q.1 ≤ 57
    · rw [if_pos c, if_pos c]
      have y := rfL_n hz n (q.1 + 1, q.2.1, 10 * q.2.2.1 + hereF f z q.1 - 48, q.2.2.2) (by show (0 : Int) ≤ q.1 + 1; omega)
      dsimp only at y
      rw [show q.2.2.1 * 10 + hereF f z q.1 - 48 = 10 * q.2.2.1 + hereF f z q.1 - 48 by omega]
      exact y
    · rw [if_neg c, if_neg c]
theorem rfL_a (hz : z ≤ 120) : ∀ (n p : Nat) (v : Int), (rfL z f n p v).1 = naL (clip f z) n p v
  | 0, p, v => rfl
  | n + 1, p, v => by
    unfold rfL naL
    have hd : (48 ≤ hereC p z f ∧ hereC p z f ≤ 57) ↔ (48 ≤ clip f z p ∧ clip f z p ≤ 57) := by
      rw [hereC_f (by omega) hz, here_d (by omega)]
      exact Iff.rfl
    by_cases c : 48 ≤ clip f z p ∧ clip f z p ≤ 57
    · rw [if_pos c, if_pos (hd.mpr c), hereC_v hz (rfl : clip f z p = _) (by omega)]
      have y := rfL_a hz n (p + 1) (v * 10 + clip f z p - 48)
      rw [show ((p + 1 : Nat) : Int) = (p : Int) + 1 by omega] at y
      rw [y, show v * 10 + clip f z p - 48 = 10 * v + clip f z p - 48 by omega]
    · rw [if_neg c, if_neg (fun g => c (hd.mp g))]
end TP
/-- a number with its sign, of so many figures at most -/
def sgV (sr : Nat → Int) (p : Nat) : Int := if sr p = 45 then -(naL sr 5 (p + 1) 0) else naL sr 5 p 0
theorem rvV_a {z : Int} {f : Nat → Int} (hz : z ≤ 120) (p : Nat) : rvV p z f = sgV (clip f z) p := by
  unfold rvV sgV mnP
  by_cases c : clip f z p = 45
  · have h := hereC_v hz c (by decide)
    rw [if_pos h, if_pos h, if_pos c]
    have y := rfL_a (f := f) hz 5 (p + 1) 0
    rw [show ((p + 1 : Nat) : Int) = (p : Int) + 1 by omega] at y
    rw [y]
  · have h : ¬ hereC p z f = 45 := fun g => c (by
      rw [hereC_f (by omega) hz] at g
      have := here_c (by omega) g (by decide)
      exact this)
    rw [if_neg h, if_neg h, if_neg c, rfL_a hz 5 p 0]
/-! the class's reader on (place, fault), beside what the reference reads -/
def ok2 (z : Int) (K : Int × Int) (R : Bool × PS) : Prop := (R.1 = true ∧ K = (R.2.1, -1) ∧ R.2.2.1 = -1) ∨ (R.1 = false ∧ K = (z, R.2.2.1) ∧ 0 ≤ R.2.2.1)
def fgM (z : Int) (f : Nat → Int) (k : Int) (s : Int × Int) : Int × Int := if 0 ≤ hereC s.1 z f - 48 ∧ hereC s.1 z f - 48 < k then (s.1 + 1, s.2) else (z, ftE s.2 s.1)
def fgU (z : Int) (f : Nat → Int) (k : Int) (p : Int) : Int := if 0 ≤ hereC p z f - 48 ∧ hereC p z f - 48 < k then hereC p z f - 48 else 0
def xpM (z : Int) (f : Nat → Int) (c : Int) (s : Int × Int) : Int × Int := if hereC s.1 z f = c then (s.1 + 1, s.2) else (z, ftE s.2 s.1)
def fsM (z : Int) (f : Nat → Int) (m : Nat) (s : Int × Int) : Int × Int := if s.1 < (rfL z f m s.1 0).2 then ((rfL z f m s.1 0).2, s.2) else (z, ftE s.2 s.1)
def vlM (z : Int) (f : Nat → Int) (s : Int × Int) : Int × Int := if mnP s.1 z f < (rfL z f 5 (mnP s.1 z f) 0).2 then ((rfL z f 5 (mnP s.1 z f) 0).2, s.2) else (z, ftE s.2 (mnP s.1 z f))
def fnM (z : Int) (f : Nat → Int) (s : Int × Int) : Int × Int := if s.1 < (rfL z f 2 s.1 0).2 ∧ ¬ (rfL z f 2 s.1 0).1 = 0 then ((rfL z f 2 s.1 0).2, s.2) else (z, ftE s.2 s.1)
noncomputable def nmM (z : Int) (f : Nat → Int) (s : Int × Int) : Int × Int := if 97 ≤ hereC s.1 z f ∧ hereC s.1 z f ≤ 122 then ((rnL z f 7 s.1 0).2, s.2) else (z, ftE s.2 s.1)
/-- behind a fault all stay at the end -/
def idl (z : Int) (K : Int × Int → Int × Int) : Prop := ∀ e : Int, 0 ≤ e → K (z, e) = (z, e)
theorem ftE_s {e i : Int} (h : 0 ≤ e) : ftE e i = e := by unfold ftE; rw [if_neg (by omega)]
theorem ftE_n {i : Int} : ftE (-1) i = i := by unfold ftE; rw [if_pos (by decide)]
theorem hereC_e {z : Int} {f : Nat → Int} : hereC z z f = -1 := hereC_z z f
theorem rfL_e {z : Int} {f : Nat → Int} {n : Nat} {u : Int} : rfL z f n z u = (u, z) := by
  cases n with
  | zero => rfl
  | succ n => unfold rfL; rw [hereC_e, if_neg (by decide)]
theorem xpM_i {z : Int} {f : Nat → Int} {c : Int} (hc : ¬ c = -1) : idl z (xpM z f c) := fun e he => by
  unfold xpM; dsimp only; rw [hereC_e, if_neg (fun g => hc g.symm), ftE_s he]
theorem fsM_i {z : Int} {f : Nat → Int} {m : Nat} : idl z (fsM z f m) := fun e he => by
  unfold fsM; dsimp only; rw [rfL_e, if_neg (by dsimp only; omega), ftE_s he]
theorem vlM_i {z : Int} {f : Nat → Int} : idl z (vlM z f) := fun e he => by
  have em : mnP z z f = z := by unfold mnP; rw [hereC_e, if_neg (by decide)]
  unfold vlM; dsimp only; rw [em, rfL_e, if_neg (by dsimp only; omega), ftE_s he]
/-- one behind another -/
theorem ok2_and {z : Int} {K1 : Int × Int} {K2 : Int × Int → Int × Int} {R1 : Bool × PS} {R2 : PS → Bool × PS} (h1 : ok2 z K1 R1) (hi : idl z K2) (h2 : R1.1 = true → R1.2.2.1 = -1 → ok2 z (K2 (R1.2.1, -1)) (R2 R1.2)) : ok2 z (K2 K1) (andR R1 R2) := by
  rcases h1 with ⟨a, b, c⟩ | ⟨a, b, c⟩
  · rw [andR_t a, b]; exact h2 a c
  · rw [andR_f (by rw [a]; decide), b, hi _ c]
    exact Or.inr ⟨a, rfl, c⟩
section OK
variable {z : Int} {f : Nat → Int}
theorem numL_e : ∀ (n : Nat) (q : PS), (numL f z n q).2.1 = q.2.1
  | 0, q => rfl
  | n + 1, q => by
    unfold numL
    split
    · rw [numL_e n]
    · rfl
theorem nR_y {n : Nat} {l m : Int} {q : PS} (h : (nR f z n l m q).1 = true) : (48 ≤ hereF f z q.1 ∧ hereF f z q.1 ≤ 57) ∧ (nR f z n l m q).2 = numL f z n (q.1, q.2.1, 0, q.2.2.2) ∧ l ≤ (numL f z n (q.1, q.2.1, 0, q.2.2.2)).2.2.1 ∧ (numL f z n (q.1, q.2.1, 0, q.2.2.2)).2.2.1 ≤ m := by
  have hb : numberB f z n l m q := by simpa [nR] using h
  obtain ⟨h1, h2⟩ := hb
  refine ⟨h1, ?_, h2⟩
  show numberF f z n l m q = _
  unfold numberF
  rw [if_pos h1]
  unfold finF
  rw [if_pos h2]
theorem nR_f {n : Nat} {l m : Int} {q : PS} (he : q.2.1 = -1) (h : (nR f z n l m q).1 = false) : (nR f z n l m q).2.2.1 = q.1 := by
  have hb : ¬ numberB f z n l m q := by
    have : decide (numberB f z n l m q) = false := h
    exact of_decide_eq_false this
  show (numberF f z n l m q).2.1 = q.1
  unfold numberF
  by_cases c : 48 ≤ hereF f z q.1 ∧ hereF f z q.1 ≤ 57
  · rw [if_pos c]
    unfold finF
    rw [if_neg (fun g => hb ⟨c, g⟩)]
    unfold failF
    dsimp only
    rw [numL_e, he, if_pos (by decide)]
  · rw [if_neg c]
    unfold failF
    dsimp only
    rw [he, if_pos (by decide)]
theorem nR_1 {n : Nat} {l m : Int} {q : PS} (h0 : 0 ≤ q.1) (h : 48 ≤ hereF f z q.1 ∧ hereF f z q.1 ≤ 57) : q.1 < (numL f z (n + 1) (q.1, q.2.1, 0, q.2.2.2)).1 := by
  unfold numL
  rw [if_pos h]
  obtain ⟨a, -, -, -⟩ := numL_rd (sr := f) (len := z) n (q.1 + 1, q.2.1, 10 * 0 + hereF f z q.1 - 48, q.2.2.2) (by show (0 : Int) ≤ q.1 + 1; omega)
  dsimp only at a ⊢
  omega
theorem ok_fig {k : Int} {q : PS} (h0 : 0 ≤ q.1) (hz : z ≤ 120) (he : q.2.1 = -1) (hk : k ≤ 9) : ok2 z (fgM z f (k + 1) (q.1, -1)) (nR f z 1 0 k q) := by
  have e1 : ∀ (c : 48 ≤ hereF f z q.1 ∧ hereF f z q.1 ≤ 57), numL f z 1 (q.1, q.2.1, 0, q.2.2.2) = (q.1 + 1, q.2.1, 10 * 0 + hereF f z q.1 - 48, q.2.2.2) := fun c => by
    unfold numL; rw [if_pos c]; rfl
  cases hR : (nR f z 1 0 k q).1 with
  | true =>
    obtain ⟨a, b, c, d⟩ := nR_y hR
    rw [e1 a] at b c d
    dsimp only at c d
    refine Or.inl ⟨hR, ?_, by rw [b]; exact he⟩
    unfold fgM; dsimp only
    rw [hereC_f h0 hz, if_pos (by omega), b]
  | false =>
    have b := nR_f he hR
    refine Or.inr ⟨hR, ?_, by omega⟩
    have hb : ¬ numberB f z 1 0 k q := by
      have : decide (numberB f z 1 0 k q) = false := hR
      exact of_decide_eq_false this
    unfold fgM; dsimp only
    rw [hereC_f h0 hz, b, if_neg, ftE_n]
    intro g
    have c : 48 ≤ hereF f z q.1 ∧ hereF f z q.1 ≤ 57 := by omega
    refine hb ⟨c, ?_⟩
    rw [e1 c]
    dsimp only
    omega
theorem ok_exp {c : Int} {q : PS} (h0 : 0 ≤ q.1) (hz : z ≤ 120) (he : q.2.1 = -1) : ok2 z (xpM z f c (q.1, -1)) (gR f z c q) := by
  unfold xpM; dsimp only
  rw [hereC_f h0 hz]
  by_cases h : hereF f z q.1 = c
  · rw [if_pos h]
    have e : signF f z c q = advF q := by unfold signF; rw [if_pos h]
    refine Or.inl ⟨decide_eq_true h, ?_, ?_⟩
    · show _ = ((signF f z c q).1, -1)
      rw [e]; rfl
    · show (signF f z c q).2.1 = -1
      rw [e]; exact he
  · rw [if_neg h, ftE_n]
    have e : signF f z c q = failF q.1 q := by unfold signF; rw [if_neg h]
    have e2 : (failF q.1 q).2.1 = q.1 := by unfold failF; dsimp only; rw [he, if_pos (by decide)]
    refine Or.inr ⟨decide_eq_false h, ?_, ?_⟩
    · show _ = (z, (signF f z c q).2.1)
      rw [e, e2]
    · show 0 ≤ (signF f z c q).2.1
      rw [e, e2]; exact h0
theorem rfL_s {n : Nat} {q : PS} (h0 : 0 ≤ q.1) (hz : z ≤ 120) : rfL z f n q.1 0 = ((numL f z n (q.1, q.2.1, 0, q.2.2.2)).2.2.1, (numL f z n (q.1, q.2.1, 0, q.2.2.2)).1) :=
  rfL_n hz n (q.1, q.2.1, 0, q.2.2.2) h0
theorem rfL_0 {n : Nat} {p : Int} (h0 : 0 ≤ p) (hz : z ≤ 120) (h : ¬ (48 ≤ hereF f z p ∧ hereF f z p ≤ 57)) : rfL z f n p 0 = (0, p) := by
  cases n with
  | zero => rfl
  | succ n => unfold rfL; rw [hereC_f h0 hz, if_neg h]
theorem numL_v : ∀ (n : Nat) (q : PS), 0 ≤ q.2.2.1 → 0 ≤ (numL f z n q).2.2.1 ∧ (numL f z n q).2.2.1 < (q.2.2.1 + 1) * tenP n
  | 0, q, h => by unfold numL tenP; omega
  | n + 1, q, h => by
    unfold numL
    have t := tenP_1 n
    split
    · rename_i c
      have y := numL_v n (q.1 + 1, q.2.1, 10 * q.2.2.1 + hereF f z q.1 - 48, q.2.2.2) (by show (0 : Int) ≤ 10 * q.2.2.1 + hereF f z q.1 - 48; omega)
      dsimp only at y
      refine ⟨y.1, Int.lt_of_lt_of_le y.2 ?_⟩
      show _ ≤ (q.2.2.1 + 1) * (10 * tenP n)
      rw [← Int.mul_assoc]
      exact Int.mul_le_mul_of_nonneg_right (by omega) (by omega)
    · refine ⟨h, ?_⟩
      show _ < (q.2.2.1 + 1) * (10 * tenP n)
      have : (q.2.2.1 + 1) * 1 ≤ (q.2.2.1 + 1) * (10 * tenP n) := Int.mul_le_mul_of_nonneg_left (by omega) (by omega)
      omega
theorem ok_figs {q : PS} (h0 : 0 ≤ q.1) (hz : z ≤ 120) (he : q.2.1 = -1) : ok2 z (fsM z f 2 (q.1, -1)) (nR f z 2 0 99 q) := by
  have e1 := rfL_s (f := f) (n := 2) h0 hz
  have ev := numL_v (f := f) (z := z) 2 (q.1, q.2.1, 0, q.2.2.2) (Int.le_refl _)
  have et : ((q.1, q.2.1, (0 : Int), q.2.2.2) : PS).2.2.1 = 0 := rfl
  rw [et, show ((0 : Int) + 1) * tenP 2 = 100 by decide] at ev
  cases hR : (nR f z 2 0 99 q).1 with
  | true =>
    obtain ⟨a, b, c, d⟩ := nR_y hR
    refine Or.inl ⟨hR, ?_, by rw [b, numL_e]; exact he⟩
    unfold fsM; dsimp only
    rw [e1, if_pos (nR_1 (n := 1) (l := 0) (m := 99) h0 a), b]
  | false =>
    have b := nR_f he hR
    refine Or.inr ⟨hR, ?_, by omega⟩
    have hb : ¬ numberB f z 2 0 99 q := by
      have : decide (numberB f z 2 0 99 q) = false := hR
      exact of_decide_eq_false this
    have hd : ¬ (48 ≤ hereF f z q.1 ∧ hereF f z q.1 ≤ 57) := fun c => hb ⟨c, by omega⟩
    unfold fsM; dsimp only
    rw [rfL_0 h0 hz hd, if_neg (by dsimp only; omega), b, ftE_n]
theorem ok_fn {q : PS} (h0 : 0 ≤ q.1) (hz : z ≤ 120) (he : q.2.1 = -1) : ok2 z (fnM z f (q.1, -1)) (nR f z 2 1 99 q) := by
  have e1 := rfL_s (f := f) (n := 2) h0 hz
  have ev := numL_v (f := f) (z := z) 2 (q.1, q.2.1, 0, q.2.2.2) (Int.le_refl _)
  have et : ((q.1, q.2.1, (0 : Int), q.2.2.2) : PS).2.2.1 = 0 := rfl
  rw [et, show ((0 : Int) + 1) * tenP 2 = 100 by decide] at ev
  cases hR : (nR f z 2 1 99 q).1 with
  | true =>
    obtain ⟨a, b, c, d⟩ := nR_y hR
    refine Or.inl ⟨hR, ?_, by rw [b, numL_e]; exact he⟩
    unfold fnM; dsimp only
    rw [e1, if_pos ⟨nR_1 (n := 1) (l := 0) (m := 99) h0 a, by dsimp only; omega⟩, b]
  | false =>
    have b := nR_f he hR
    refine Or.inr ⟨hR, ?_, by omega⟩
    have hb : ¬ numberB f z 2 1 99 q := by
      have : decide (numberB f z 2 1 99 q) = false := hR
      exact of_decide_eq_false this
    unfold fnM; dsimp only
    by_cases hd : 48 ≤ hereF f z q.1 ∧ hereF f z q.1 ≤ 57
    · have : (numL f z 2 (q.1, q.2.1, 0, q.2.2.2)).2.2.1 = 0 := by
        by_cases c : (numL f z 2 (q.1, q.2.1, 0, q.2.2.2)).2.2.1 = 0
        · exact c
        · exact absurd ⟨hd, by omega, by omega⟩ hb
      rw [e1, if_neg (fun g => g.2 this), b, ftE_n]
    · rw [rfL_0 h0 hz hd, if_neg (fun g => g.2 rfl), b, ftE_n]
end OK
end mg_9o

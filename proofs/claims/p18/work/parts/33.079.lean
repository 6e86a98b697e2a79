section mg_45
end mg_45
section mg_50
/-! ===== the class's world: rows of ints with a size (Ints), a World of 177 objects, a Runner around it, Reader, Speller, the keeper itself ===== -/
def iBlk (a : Nat) : Nat → Prop := fun b => b = a ∨ b = a + 1
def isI (h : mH) (a n : Nat) (z : Int) (f : Nat → Int) : Prop := h.1 ≤ a ∧ hGet h a = some (.inl (1, [.ref (a + 1), .int (J z)])) ∧ hGet h (a + 1) = some (.inr (.inl (n, fun q => J (f q))))
section II
variable {h h' : mH} {a n : Nat} {z : Int} {f : Nat → Int}
theorem isI.lo (k : isI h a n z f) : h.1 ≤ a := k.1
theorem isI.lo1 (k : isI h a n z f) : h.1 ≤ a + 1 := Nat.le_succ_of_le k.1
theorem isI.gx (k : isI h a n z f) : hGet h a = some (.inl (1, [.ref (a + 1), .int (J z)])) := k.2.1
theorem isI.gc (k : isI h a n z f) : hGet h (a + 1) = some (.inr (.inl (n, fun q => J (f q)))) := k.2.2
theorem isI.putz (k : isI h a n z f) (z' : Int) : isI (hPut h a (.inl (1, [.ref (a + 1), .int (J z')]))) a n z' f := ⟨k.lo, hGet_put_self, hGet_put_ne (by omega) k.gc⟩
theorem isI.putc (k : isI h a n z f) (f' : Nat → Int) : isI (hPut h (a + 1) (.inr (.inl (n, fun q => J (f' q))))) a n z f' := ⟨k.lo, hGet_put_ne (by omega) k.gx, hGet_put_self⟩
theorem isI.keep2 (k : isI h a n z f) (e : h'.1 = h.1) (S : ∀ b, iBlk a b → hGet h' b = hGet h b) : isI h' a n z f :=
  ⟨by rw [e]; exact k.lo, (S _ (Or.inl rfl)).trans k.gx, (S _ (Or.inr rfl)).trans k.gc⟩
theorem isI.kept {P : Nat → Prop} (k : isI h a n z f) (S : Same P h h') (h1 : ¬ P a) (h2 : ¬ P (a + 1)) : isI h' a n z f :=
  ⟨by rw [S.1]; exact k.lo, (S.2.2.2 _ h1).trans k.gx, (S.2.2.2 _ h2).trans k.gc⟩
end II
section RI
variable {G : mG} {l : Launch} {d : Nat} {M : mM} {pc : Nat} {ls : List (Option Value)} {st : List Value} {h : mH} {Q : Option Value → mH → Prop} {a n : Nat} {z : Int} {f : Nat → Int}
theorem rc_putz {index : Nat} {v : Int} (hdg : decode M.2.1 pc = .ok (.putfield index, 3)) (hf : mFld M.1.cls index 1 1 .int false) (hI : isI h a n z f)
    (K : ∀ h1, isI h1 a n v f → Same (iBlk a) h h1 → RUN G l d M (pc + 3) ls st h1 Q) : RUN G l d M pc ls (.int (J v) :: .ref a :: st) h Q :=
  r_putf hdg hf hI.gx hI.lo rfl rfl (Nat.le_of_ble_eq_true rfl) (K _ (hI.putz _) (Same.refl.put (Or.inl rfl)))
theorem rc_iast {i v : Int} (hdg : decode M.2.1 pc = .ok (.iastore, 1)) (hI : isI h a n z f) (hr : InR i) (h0 : 0 ≤ i) (h1 : i < n)
    (K : ∀ h1, isI h1 a n z (updI f i.toNat v) → Same (iBlk a) h h1 → RUN G l d M (pc + 1) ls st h1 Q) : RUN G l d M pc ls (.int (J v) :: .int (J i) :: .ref (a + 1) :: st) h Q :=
  rj_iast hdg hI.gc hI.lo1 hr h0 h1 (K _ (hI.putc _) (Same.refl.put (Or.inr rfl)))
end RI
theorem rj_alenR {G : mG} {l : Launch} {d : Nat} {M : mM} {pc : Nat} {ls : List (Option Value)} {st : List Value} {h : mH} {Q : Option Value → mH → Prop} {c t n : Nat} {f : Nat → Option Nat} (hdg : decode M.2.1 pc = .ok (.arraylength, 1)) (ho : hGet h c = some (.inr (.inr (t, n, f)))) (K : RUN G l d M (pc + 1) ls (.int (J (n : Int)) :: st) h Q) : RUN G l d M pc ls (.ref c :: st) h Q := r_alenR hdg ho (by rw [J_nat]; exact K)
def wA (w k : Nat) : Nat := w + k
def wT (w q : Nat) : Nat := w + 17 + q
def wS (w q : Nat) : Nat := w + 107 + q
def wK (w q : Nat) : Nat := w + 167 + q
def wBlk (w : Nat) : Nat → Prop := fun b => w ≤ b ∧ b < w + 177
def iAd : Nat → Nat
  | 0 => 4 | 1 => 6 | 2 => 8 | 3 => 11 | 4 => 13 | _ => 15
def iRm : Nat → Nat
  | 0 => 8 | 1 => 90 | 2 => 150 | 3 => 90 | 4 => 90 | _ => 90
def updC (C : Nat → Nat → Int) (k : Nat) (f : Nat → Int) : Nat → Nat → Int := fun j => if j = k then f else C j
def updO (g : Nat → Option Nat) (k : Nat) (r : Option Nat) : Nat → Option Nat := fun j => if j = k then r else g j
def updL (g : Nat → Int64) (k : Nat) (r : Int64) : Nat → Int64 := fun j => if j = k then r else g j
theorem updC_s {C : Nat → Nat → Int} {k : Nat} {f : Nat → Int} : updC C k f k = f := by simp [updC]
theorem updC_n {C : Nat → Nat → Int} {k q : Nat} {f : Nat → Int} (h : q ≠ k) : updC C k f q = C q := by simp [updC, h]
theorem updO_s {C : Nat → Option Nat} {k : Nat} {f : Option Nat} : updO C k f k = f := by simp [updO]
theorem updO_n {C : Nat → Option Nat} {k q : Nat} {f : Option Nat} (h : q ≠ k) : updO C k f q = C q := by simp [updO, h]
theorem updL_n {C : Nat → Int64} {k q : Nat} {f : Int64} (h : q ≠ k) : updL C k f q = C q := by simp [updL, h]
noncomputable def wFs (w : Nat) (c : Nat → Int) : List Value := [.ref (wA w 1), .ref (wA w 2), .ref (wA w 3), .int (J (c 0)), .int (J (c 1)), .int (J (c 2)), .int (J (c 3)), .ref (wA w 4), .ref (wA w 6), .ref (wA w 8), .ref (wA w 10)]
noncomputable def uFs (w : Nat) (c : Nat → Int) : List Value := [.ref (wA w 11), .ref (wA w 13), .ref (wA w 15), .int (J (c 4))]
noncomputable def tFs (c : Nat → Int) (nm : Nat → Int64) (g : Nat → Option Nat) (q : Nat) : List Value := [.long (nm q), va_rf (g (2 * q)), va_rf (g (2 * q + 1)), .int (J (c (32 + 3 * q))), .int (J (c (33 + 3 * q))), .int (J (c (34 + 3 * q)))]
noncomputable def sFs (c : Nat → Int) (q : Nat) : List Value := [.int (J (c (304 + 3 * q))), .int (J (c (305 + 3 * q))), .int (J (c (306 + 3 * q)))]
noncomputable def kFs (c : Nat → Int) (g : Nat → Option Nat) (q : Nat) : List Value := [va_rf (g (180 + 2 * q)), va_rf (g (181 + 2 * q)), .int (J (c (488 + 9 * q))), .int (J (c (489 + 9 * q))), .int (J (c (490 + 9 * q))), .int (J (c (491 + 9 * q))), .int (J (c (492 + 9 * q))), .int (J (c (493 + 9 * q))), .int (J (c (494 + 9 * q))), .int (J (c (495 + 9 * q))), .int (J (c (496 + 9 * q)))]
def rowT (w : Nat) : Nat → Option Nat := fun q => if q < 90 then some (wT w q) else none
def rowS (w : Nat) : Nat → Option Nat := fun q => if q < 60 then some (wS w q) else none
def rowK (w : Nat) : Nat → Option Nat := fun q => if q < 10 then some (wK w q) else none
def isW (h : mH) (w : Nat) (c : Nat → Int) (C : Nat → Nat → Int) (nm : Nat → Int64) (g : Nat → Option Nat) : Prop :=
  h.1 ≤ w ∧ hGet h w = some (.inl (9, wFs w c)) ∧ hGet h (wA w 1) = some (.inr (.inr (2, 90, rowT w))) ∧ hGet h (wA w 2) = some (.inr (.inr (3, 60, rowS w))) ∧ hGet h (wA w 3) = some (.inr (.inr (4, 10, rowK w))) ∧
  hGet h (wA w 10) = some (.inl (0, uFs w c)) ∧ (∀ k, k < 6 → isI h (wA w (iAd k)) (iRm k) (c (8 + k)) (C k)) ∧
  (∀ q, q < 90 → hGet h (wT w q) = some (.inl (8, tFs c nm g q))) ∧ (∀ q, q < 60 → hGet h (wS w q) = some (.inl (4, sFs c q))) ∧ (∀ q, q < 10 → hGet h (wK w q) = some (.inl (7, kFs c g q)))
section IW
variable {h h' : mH} {w : Nat} {c : Nat → Int} {C : Nat → Nat → Int} {nm : Nat → Int64} {g : Nat → Option Nat}
theorem isW.lo (k : isW h w c C nm g) : h.1 ≤ w := k.1
theorem isW.loA (k : isW h w c C nm g) (j : Nat) : h.1 ≤ wA w j := Nat.le_trans k.1 (by unfold wA; omega)
theorem isW.loT (k : isW h w c C nm g) (j : Nat) : h.1 ≤ wT w j := Nat.le_trans k.1 (by unfold wT; omega)
theorem isW.loS (k : isW h w c C nm g) (j : Nat) : h.1 ≤ wS w j := Nat.le_trans k.1 (by unfold wS; omega)
theorem isW.loK (k : isW h w c C nm g) (j : Nat) : h.1 ≤ wK w j := Nat.le_trans k.1 (by unfold wK; omega)
theorem isW.gx (k : isW h w c C nm g) : hGet h w = some (.inl (9, wFs w c)) := k.2.1
theorem isW.g1 (k : isW h w c C nm g) : hGet h (wA w 1) = some (.inr (.inr (2, 90, rowT w))) := k.2.2.1
theorem isW.g2 (k : isW h w c C nm g) : hGet h (wA w 2) = some (.inr (.inr (3, 60, rowS w))) := k.2.2.2.1
theorem isW.g3 (k : isW h w c C nm g) : hGet h (wA w 3) = some (.inr (.inr (4, 10, rowK w))) := k.2.2.2.2.1
theorem isW.gF (k : isW h w c C nm g) : hGet h (wA w 10) = some (.inl (0, uFs w c)) := k.2.2.2.2.2.1
theorem isW.gI (k : isW h w c C nm g) {j : Nat} (hj : j < 6) : isI h (wA w (iAd j)) (iRm j) (c (8 + j)) (C j) := k.2.2.2.2.2.2.1 j hj
theorem isW.gT (k : isW h w c C nm g) {q : Nat} (hq : q < 90) : hGet h (wT w q) = some (.inl (8, tFs c nm g q)) := k.2.2.2.2.2.2.2.1 q hq
theorem isW.gS (k : isW h w c C nm g) {q : Nat} (hq : q < 60) : hGet h (wS w q) = some (.inl (4, sFs c q)) := k.2.2.2.2.2.2.2.2.1 q hq
theorem isW.gK (k : isW h w c C nm g) {q : Nat} (hq : q < 10) : hGet h (wK w q) = some (.inl (7, kFs c g q)) := k.2.2.2.2.2.2.2.2.2 q hq
theorem isW.i0 (k : isW h w c C nm g) : isI h (wA w 4) 8 (c 8) (C 0) := k.gI (j := 0) (by decide)
theorem isW.i1 (k : isW h w c C nm g) : isI h (wA w 6) 90 (c 9) (C 1) := k.gI (j := 1) (by decide)
theorem isW.i2 (k : isW h w c C nm g) : isI h (wA w 8) 150 (c 10) (C 2) := k.gI (j := 2) (by decide)
theorem isW.i3 (k : isW h w c C nm g) : isI h (wA w 11) 90 (c 11) (C 3) := k.gI (j := 3) (by decide)
theorem isW.i4 (k : isW h w c C nm g) : isI h (wA w 13) 90 (c 12) (C 4) := k.gI (j := 4) (by decide)
theorem isW.i5 (k : isW h w c C nm g) : isI h (wA w 15) 90 (c 13) (C 5) := k.gI (j := 5) (by decide)
theorem iAd_r {k : Nat} : 4 ≤ iAd k ∧ iAd k ≤ 15 ∧ iAd k ≠ 10 ∧ iAd k + 1 ≠ 10 := by
  match k with
  | 0 => decide
  | 1 => decide
  | 2 => decide
  | 3 => decide
  | 4 => decide
  | k + 5 => exact (by decide : 4 ≤ 15 ∧ 15 ≤ 15 ∧ 15 ≠ 10 ∧ 15 + 1 ≠ 10)
theorem iAd_d : ∀ j, j < 6 → ∀ k, k < 6 → j ≠ k → iAd j ≠ iAd k ∧ iAd j ≠ iAd k + 1 ∧ iAd j + 1 ≠ iAd k := by decide
/-- another heap, other data: what has to be shown -/
theorem isW.keep2 (k : isW h w c C nm g) (e : h'.1 = h.1) (S : ∀ b, wBlk w b → hGet h' b = hGet h b) : isW h' w c C nm g := by
  obtain ⟨k0, k1, k2, k3, k4, k5, k6, k7, k8, k9⟩ := k
  refine ⟨by rw [e]; exact k0, ?_, ?_, ?_, ?_, ?_, fun q hq => ?_, fun q hq => ?_, fun q hq => ?_, fun q hq => ?_⟩
  · exact (S _ (by unfold wBlk; omega)).trans k1
  · exact (S _ (by unfold wBlk wA; omega)).trans k2
  · exact (S _ (by unfold wBlk wA; omega)).trans k3
  · exact (S _ (by unfold wBlk wA; omega)).trans k4
  · exact (S _ (by unfold wBlk wA; omega)).trans k5
  · have := iAd_r (k := q)
    exact (k6 q hq).keep2 e (fun b hb => S b (by unfold iBlk wA at hb; unfold wBlk; omega))
  · exact (S _ (by unfold wBlk wT; omega)).trans (k7 q hq)
  · exact (S _ (by unfold wBlk wS; omega)).trans (k8 q hq)
  · exact (S _ (by unfold wBlk wK; omega)).trans (k9 q hq)
theorem isW.kept {P : Nat → Prop} (k : isW h w c C nm g) (S : Same P h h') (hP : ∀ b, wBlk w b → ¬ P b) : isW h' w c C nm g := by
  obtain ⟨k0, k1, k2, k3, k4, k5, k6, k7, k8, k9⟩ := k
  refine ⟨by rw [S.1]; exact k0, ?_, ?_, ?_, ?_, ?_, fun q hq => ?_, fun q hq => ?_, fun q hq => ?_, fun q hq => ?_⟩
  · exact (S.2.2.2 _ (hP _ (by unfold wBlk; omega))).trans k1
  · exact (S.2.2.2 _ (hP _ (by unfold wBlk wA; omega))).trans k2
  · exact (S.2.2.2 _ (hP _ (by unfold wBlk wA; omega))).trans k3
  · exact (S.2.2.2 _ (hP _ (by unfold wBlk wA; omega))).trans k4
  · exact (S.2.2.2 _ (hP _ (by unfold wBlk wA; omega))).trans k5
  · have := iAd_r (k := q)
    exact (k6 q hq).kept S (hP _ (by unfold wBlk wA; omega)) (hP _ (by unfold wBlk wA; omega))
  · exact (S.2.2.2 _ (hP _ (by unfold wBlk wT; omega))).trans (k7 q hq)
  · exact (S.2.2.2 _ (hP _ (by unfold wBlk wS; omega))).trans (k8 q hq)
  · exact (S.2.2.2 _ (hP _ (by unfold wBlk wK; omega))).trans (k9 q hq)
end IW
end mg_50

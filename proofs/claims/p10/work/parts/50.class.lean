/-! ===== the class's world: rows of ints with a size (Ints), a World of 177 objects, a Runner around it, Reader, Speller, the keeper itself ===== -/
def iBlk (a : Nat) : Nat → Prop := fun b => b = a ∨ b = a + 1
def isI (h : mH) (a n : Nat) (z : Int) (f : Nat → Int) : Prop := h.1 ≤ a ∧ hGet h a = some (.inl (1, [.ref (a + 1), .int (J z)])) ∧ hGet h (a + 1) = some (.inr (.inl (n, fun q => J (f q))))
section II
variable {h h' : mH} {a n : Nat} {z : Int} {f : Nat → Int}
theorem isI.lo (k : isI h a n z f) : h.1 ≤ a := k.1
theorem isI.lo1 (k : isI h a n z f) : h.1 ≤ a + 1 := Nat.le_succ_of_le k.1
theorem isI.gx (k : isI h a n z f) : hGet h a = some (.inl (1, [.ref (a + 1), .int (J z)])) := k.2.1
theorem isI.gc (k : isI h a n z f) : hGet h (a + 1) = some (.inr (.inl (n, fun q => J (f q)))) := k.2.2
theorem isI.putz (k : isI h a n z f) (z' : Int) : isI (hPut h a (.inl (1, [.ref (a + 1), .int (J z')]))) a n z' f := ⟨k.lo, hGet_put_self, hGet_put_ne (by omega) k.gc⟩
theorem isI.putc (k : isI h a n z f) (f' : Nat → Int) : isI (hPut h (a + 1) (.inr (.inl (n, fun q => J (f' q))))) a n z f' := ⟨k.lo, hGet_put_ne (by omega) k.gx, hGet_put_self⟩
theorem isI.keep2 (k : isI h a n z f) (e : h'.1 = h.1) (S : ∀ b, iBlk a b → hGet h' b = hGet h b) : isI h' a n z f :=
  ⟨by rw [e]; exact k.lo, (S _ (Or.inl rfl)).trans k.gx, (S _ (Or.inr rfl)).trans k.gc⟩
theorem isI.kept {P : Nat → Prop} (k : isI h a n z f) (S : Same P h h') (h1 : ¬ P a) (h2 : ¬ P (a + 1)) : isI h' a n z f :=
  ⟨by rw [S.1]; exact k.lo, (S.2.2.2 _ h1).trans k.gx, (S.2.2.2 _ h2).trans k.gc⟩
end II
section RI
variable {G : mG} {l : Launch} {d : Nat} {M : mM} {pc : Nat} {ls : List (Option Value)} {st : List Value} {h : mH} {Q : Option Value → mH → Prop} {a n : Nat} {z : Int} {f : Nat → Int}
theorem rc_putz {index : Nat} {v : Int} (hdg : decode M.2.1 pc = .ok (.putfield index, 3)) (hf : mFld M.1.cls index 1 1 .int false) (hI : isI h a n z f)
    (K : ∀ h1, isI h1 a n v f → Same (iBlk a) h h1 → RUN G l d M (pc + 3) ls st h1 Q) : RUN G l d M pc ls (.int (J v) :: .ref a :: st) h Q :=
  r_putf hdg hf hI.gx hI.lo rfl rfl (Nat.le_of_ble_eq_true rfl) (K _ (hI.putz _) (Same.refl.put (Or.inl rfl)))
theorem rc_iast {i v : Int} (hdg : decode M.2.1 pc = .ok (.iastore, 1)) (hI : isI h a n z f) (hr : InR i) (h0 : 0 ≤ i) (h1 : i < n)
    (K : ∀ h1, isI h1 a n z (updI f i.toNat v) → Same (iBlk a) h h1 → RUN G l d M (pc + 1) ls st h1 Q) : RUN G l d M pc ls (.int (J v) :: .int (J i) :: .ref (a + 1) :: st) h Q :=
  rj_iast hdg hI.gc hI.lo1 hr h0 h1 (K _ (hI.putc _) (Same.refl.put (Or.inr rfl)))
end RI
theorem rj_alenR {G : mG} {l : Launch} {d : Nat} {M : mM} {pc : Nat} {ls : List (Option Value)} {st : List Value} {h : mH} {Q : Option Value → mH → Prop} {c t n : Nat} {f : Nat → Option Nat} (hdg : decode M.2.1 pc = .ok (.arraylength, 1)) (ho : hGet h c = some (.inr (.inr (t, n, f)))) (K : RUN G l d M (pc + 1) ls (.int (J (n : Int)) :: st) h Q) : RUN G l d M pc ls (.ref c :: st) h Q := r_alenR hdg ho (by rw [J_nat]; exact K)
def wA (w k : Nat) : Nat := w + k
def wT (w q : Nat) : Nat := w + 17 + q
def wS (w q : Nat) : Nat := w + 107 + q
def wK (w q : Nat) : Nat := w + 167 + q
def wBlk (w : Nat) : Nat → Prop := fun b => w ≤ b ∧ b < w + 177
def iAd : Nat → Nat
  | 0 => 4 | 1 => 6 | 2 => 8 | 3 => 11 | 4 => 13 | _ => 15
def iRm : Nat → Nat
  | 0 => 8 | 1 => 90 | 2 => 150 | 3 => 90 | 4 => 90 | _ => 90
def updC (C : Nat → Nat → Int) (k : Nat) (f : Nat → Int) : Nat → Nat → Int := fun j => if j = k then f else C j
def updO (g : Nat → Option Nat) (k : Nat) (r : Option Nat) : Nat → Option Nat := fun j => if j = k then r else g j
def updL (g : Nat → Int64) (k : Nat) (r : Int64) : Nat → Int64 := fun j => if j = k then r else g j
theorem updC_s {C : Nat → Nat → Int} {k : Nat} {f : Nat → Int} : updC C k f k = f := by simp [updC]
theorem updC_n {C : Nat → Nat → Int} {k q : Nat} {f : Nat → Int} (h : q ≠ k) : updC C k f q = C q := by simp [updC, h]
theorem updO_s {C : Nat → Option Nat} {k : Nat} {f : Option Nat} : updO C k f k = f := by simp [updO]
theorem updO_n {C : Nat → Option Nat} {k q : Nat} {f : Option Nat} (h : q ≠ k) : updO C k f q = C q := by simp [updO, h]
theorem updL_s {C : Nat → Int64} {k : Nat} {f : Int64} : updL C k f k = f := by simp [updL]
theorem updL_n {C : Nat → Int64} {k q : Nat} {f : Int64} (h : q ≠ k) : updL C k f q = C q := by simp [updL, h]
noncomputable def wFs (w : Nat) (c : Nat → Int) : List Value := [.ref (wA w 1), .ref (wA w 2), .ref (wA w 3), .int (J (c 0)), .int (J (c 1)), .int (J (c 2)), .int (J (c 3)), .ref (wA w 4), .ref (wA w 6), .ref (wA w 8), .ref (wA w 10)]
noncomputable def uFs (w : Nat) (c : Nat → Int) : List Value := [.ref (wA w 11), .ref (wA w 13), .ref (wA w 15), .int (J (c 4))]
noncomputable def tFs (c : Nat → Int) (nm : Nat → Int64) (g : Nat → Option Nat) (q : Nat) : List Value := [.long (nm q), va_rf (g (2 * q)), va_rf (g (2 * q + 1)), .int (J (c (32 + 3 * q))), .int (J (c (33 + 3 * q))), .int (J (c (34 + 3 * q)))]
noncomputable def sFs (c : Nat → Int) (q : Nat) : List Value := [.int (J (c (304 + 3 * q))), .int (J (c (305 + 3 * q))), .int (J (c (306 + 3 * q)))]
noncomputable def kFs (c : Nat → Int) (g : Nat → Option Nat) (q : Nat) : List Value := [va_rf (g (180 + 2 * q)), va_rf (g (181 + 2 * q)), .int (J (c (488 + 9 * q))), .int (J (c (489 + 9 * q))), .int (J (c (490 + 9 * q))), .int (J (c (491 + 9 * q))), .int (J (c (492 + 9 * q))), .int (J (c (493 + 9 * q))), .int (J (c (494 + 9 * q))), .int (J (c (495 + 9 * q))), .int (J (c (496 + 9 * q)))]
def rowT (w : Nat) : Nat → Option Nat := fun q => if q < 90 then some (wT w q) else none
def rowS (w : Nat) : Nat → Option Nat := fun q => if q < 60 then some (wS w q) else none
def rowK (w : Nat) : Nat → Option Nat := fun q => if q < 10 then some (wK w q) else none
def isW (h : mH) (w : Nat) (c : Nat → Int) (C : Nat → Nat → Int) (nm : Nat → Int64) (g : Nat → Option Nat) : Prop :=
  h.1 ≤ w ∧ hGet h w = some (.inl (9, wFs w c)) ∧ hGet h (wA w 1) = some (.inr (.inr (2, 90, rowT w))) ∧ hGet h (wA w 2) = some (.inr (.inr (3, 60, rowS w))) ∧ hGet h (wA w 3) = some (.inr (.inr (4, 10, rowK w))) ∧
  hGet h (wA w 10) = some (.inl (0, uFs w c)) ∧ (∀ k, k < 6 → isI h (wA w (iAd k)) (iRm k) (c (8 + k)) (C k)) ∧
  (∀ q, q < 90 → hGet h (wT w q) = some (.inl (8, tFs c nm g q))) ∧ (∀ q, q < 60 → hGet h (wS w q) = some (.inl (4, sFs c q))) ∧ (∀ q, q < 10 → hGet h (wK w q) = some (.inl (7, kFs c g q)))
section IW
variable {h h' : mH} {w : Nat} {c : Nat → Int} {C : Nat → Nat → Int} {nm : Nat → Int64} {g : Nat → Option Nat}
theorem isW.lo (k : isW h w c C nm g) : h.1 ≤ w := k.1
theorem isW.loA (k : isW h w c C nm g) (j : Nat) : h.1 ≤ wA w j := Nat.le_trans k.1 (by unfold wA; omega)
theorem isW.loT (k : isW h w c C nm g) (j : Nat) : h.1 ≤ wT w j := Nat.le_trans k.1 (by unfold wT; omega)
theorem isW.loS (k : isW h w c C nm g) (j : Nat) : h.1 ≤ wS w j := Nat.le_trans k.1 (by unfold wS; omega)
theorem isW.loK (k : isW h w c C nm g) (j : Nat) : h.1 ≤ wK w j := Nat.le_trans k.1 (by unfold wK; omega)
theorem isW.gx (k : isW h w c C nm g) : hGet h w = some (.inl (9, wFs w c)) := k.2.1
theorem isW.g1 (k : isW h w c C nm g) : hGet h (wA w 1) = some (.inr (.inr (2, 90, rowT w))) := k.2.2.1
theorem isW.g2 (k : isW h w c C nm g) : hGet h (wA w 2) = some (.inr (.inr (3, 60, rowS w))) := k.2.2.2.1
theorem isW.g3 (k : isW h w c C nm g) : hGet h (wA w 3) = some (.inr (.inr (4, 10, rowK w))) := k.2.2.2.2.1
theorem isW.gF (k : isW h w c C nm g) : hGet h (wA w 10) = some (.inl (0, uFs w c)) := k.2.2.2.2.2.1
theorem isW.gI (k : isW h w c C nm g) {j : Nat} (hj : j < 6) : isI h (wA w (iAd j)) (iRm j) (c (8 + j)) (C j) := k.2.2.2.2.2.2.1 j hj
theorem isW.gT (k : isW h w c C nm g) {q : Nat} (hq : q < 90) : hGet h (wT w q) = some (.inl (8, tFs c nm g q)) := k.2.2.2.2.2.2.2.1 q hq
theorem isW.gS (k : isW h w c C nm g) {q : Nat} (hq : q < 60) : hGet h (wS w q) = some (.inl (4, sFs c q)) := k.2.2.2.2.2.2.2.2.1 q hq
theorem isW.gK (k : isW h w c C nm g) {q : Nat} (hq : q < 10) : hGet h (wK w q) = some (.inl (7, kFs c g q)) := k.2.2.2.2.2.2.2.2.2 q hq
theorem isW.i0 (k : isW h w c C nm g) : isI h (wA w 4) 8 (c 8) (C 0) := k.gI (j := 0) (by decide)
theorem isW.i1 (k : isW h w c C nm g) : isI h (wA w 6) 90 (c 9) (C 1) := k.gI (j := 1) (by decide)
theorem isW.i2 (k : isW h w c C nm g) : isI h (wA w 8) 150 (c 10) (C 2) := k.gI (j := 2) (by decide)
theorem isW.i3 (k : isW h w c C nm g) : isI h (wA w 11) 90 (c 11) (C 3) := k.gI (j := 3) (by decide)
theorem isW.i4 (k : isW h w c C nm g) : isI h (wA w 13) 90 (c 12) (C 4) := k.gI (j := 4) (by decide)
theorem isW.i5 (k : isW h w c C nm g) : isI h (wA w 15) 90 (c 13) (C 5) := k.gI (j := 5) (by decide)
theorem iAd_r {k : Nat} : 4 ≤ iAd k ∧ iAd k ≤ 15 ∧ iAd k ≠ 10 ∧ iAd k + 1 ≠ 10 := by
  match k with
  | 0 => decide
  | 1 => decide
  | 2 => decide
  | 3 => decide
  | 4 => decide
  | k + 5 => exact (by decide : 4 ≤ 15 ∧ 15 ≤ 15 ∧ 15 ≠ 10 ∧ 15 + 1 ≠ 10)
theorem iAd_d : ∀ j, j < 6 → ∀ k, k < 6 → j ≠ k → iAd j ≠ iAd k ∧ iAd j ≠ iAd k + 1 ∧ iAd j + 1 ≠ iAd k := by decide
/-- another heap, other data: what has to be shown -/
theorem isW.keep2 (k : isW h w c C nm g) (e : h'.1 = h.1) (S : ∀ b, wBlk w b → hGet h' b = hGet h b) : isW h' w c C nm g := by
  obtain ⟨k0, k1, k2, k3, k4, k5, k6, k7, k8, k9⟩ := k
  refine ⟨by rw [e]; exact k0, ?_, ?_, ?_, ?_, ?_, fun q hq => ?_, fun q hq => ?_, fun q hq => ?_, fun q hq => ?_⟩
  · exact (S _ (by unfold wBlk; omega)).trans k1
  · exact (S _ (by unfold wBlk wA; omega)).trans k2
  · exact (S _ (by unfold wBlk wA; omega)).trans k3
  · exact (S _ (by unfold wBlk wA; omega)).trans k4
  · exact (S _ (by unfold wBlk wA; omega)).trans k5
  · have := iAd_r (k := q)
    exact (k6 q hq).keep2 e (fun b hb => S b (by unfold iBlk wA at hb; unfold wBlk; omega))
  · exact (S _ (by unfold wBlk wT; omega)).trans (k7 q hq)
  · exact (S _ (by unfold wBlk wS; omega)).trans (k8 q hq)
  · exact (S _ (by unfold wBlk wK; omega)).trans (k9 q hq)
theorem isW.kept {P : Nat → Prop} (k : isW h w c C nm g) (S : Same P h h') (hP : ∀ b, wBlk w b → ¬ P b) : isW h' w c C nm g := by
  obtain ⟨k0, k1, k2, k3, k4, k5, k6, k7, k8, k9⟩ := k
  refine ⟨by rw [S.1]; exact k0, ?_, ?_, ?_, ?_, ?_, fun q hq => ?_, fun q hq => ?_, fun q hq => ?_, fun q hq => ?_⟩
  · exact (S.2.2.2 _ (hP _ (by unfold wBlk; omega))).trans k1
  · exact (S.2.2.2 _ (hP _ (by unfold wBlk wA; omega))).trans k2
  · exact (S.2.2.2 _ (hP _ (by unfold wBlk wA; omega))).trans k3
  · exact (S.2.2.2 _ (hP _ (by unfold wBlk wA; omega))).trans k4
  · exact (S.2.2.2 _ (hP _ (by unfold wBlk wA; omega))).trans k5
  · have := iAd_r (k := q)
    exact (k6 q hq).kept S (hP _ (by unfold wBlk wA; omega)) (hP _ (by unfold wBlk wA; omega))
  · exact (S.2.2.2 _ (hP _ (by unfold wBlk wT; omega))).trans (k7 q hq)
  · exact (S.2.2.2 _ (hP _ (by unfold wBlk wS; omega))).trans (k8 q hq)
  · exact (S.2.2.2 _ (hP _ (by unfold wBlk wK; omega))).trans (k9 q hq)
theorem isW.ofI (k : isW h w c C nm g) {j : Nat} (hj : j < 6) {z : Int} {f : Nat → Int} (S : Same (iBlk (wA w (iAd j))) h h') (hI : isI h' (wA w (iAd j)) (iRm j) z f) : isW h' w (updI c (8 + j) z) (updC C j f) nm g := by
  have hr := iAd_r (k := j)
  obtain ⟨k0, k1, k2, k3, k4, k5, k6, k7, k8, k9⟩ := k
  have nb : ∀ b, b ≠ wA w (iAd j) → b ≠ wA w (iAd j) + 1 → hGet h' b = hGet h b := fun b h1 h2 => S.2.2.2 b (fun q => q.elim h1 h2)
  refine ⟨by rw [S.1]; exact k0, ?_, ?_, ?_, ?_, ?_, fun q hq => ?_, fun q hq => ?_, fun q hq => ?_, fun q hq => ?_⟩
  · rw [nb _ (by unfold wA; omega) (by unfold wA; omega), k1]; unfold wFs; rw [updI_n (by omega), updI_n (by omega), updI_n (by omega), updI_n (by omega)]
  · exact (nb _ (by unfold wA; omega) (by unfold wA; omega)).trans k2
  · exact (nb _ (by unfold wA; omega) (by unfold wA; omega)).trans k3
  · exact (nb _ (by unfold wA; omega) (by unfold wA; omega)).trans k4
  · rw [nb _ (by unfold wA; omega) (by unfold wA; omega), k5]; unfold uFs; rw [updI_n (by omega)]
  · by_cases e : q = j
    · subst e
      rw [updI_s, updC_s]; exact hI
    · have := iAd_d q hq j hj e
      rw [updI_n (by omega), updC_n e]
      exact (k6 q hq).kept S (fun x => by unfold iBlk wA at x; omega) (fun x => by unfold iBlk wA at x; omega)
  · rw [nb _ (by unfold wA wT; omega) (by unfold wA wT; omega), k7 q hq]; unfold tFs; rw [updI_n (by omega), updI_n (by omega), updI_n (by omega)]
  · rw [nb _ (by unfold wA wS; omega) (by unfold wA wS; omega), k8 q hq]; unfold sFs; rw [updI_n (by omega), updI_n (by omega), updI_n (by omega)]
  · rw [nb _ (by unfold wA wK; omega) (by unfold wA wK; omega), k9 q hq]; unfold kFs; rw [updI_n (by omega), updI_n (by omega), updI_n (by omega), updI_n (by omega), updI_n (by omega), updI_n (by omega), updI_n (by omega), updI_n (by omega), updI_n (by omega)]
theorem iBlk_wBlk {j : Nat} {b : Nat} (k : iBlk (wA w (iAd j)) b) : wBlk w b := by
  have hr := iAd_r (k := j)
  unfold iBlk wA at k; unfold wBlk; omega
theorem isW.putw0 (k : isW h w c C nm g) (v : Int) : isW (hPut h w (.inl (9, (wFs w c).set 3 (.int (J v))))) w (updI c 0 v) C nm g := by
  obtain ⟨k0, k1, k2, k3, k4, k5, k6, k7, k8, k9⟩ := k
  refine ⟨k0, ?_, ?_, ?_, ?_, ?_, fun q hq => ?_, fun q hq => ?_, fun q hq => ?_, fun q hq => ?_⟩
  · rw [hGet_put_self]; unfold wFs; simp [updI, List.set]
  · exact hGet_put_ne (by unfold wA; omega) k2
  · exact hGet_put_ne (by unfold wA; omega) k3
  · exact hGet_put_ne (by unfold wA; omega) k4
  · rw [hGet_put_ne (by unfold wA; omega) k5]; unfold uFs; rw [updI_n (by omega)]
  · have hr := iAd_r (k := q)
    rw [updI_n (by omega)]; exact ⟨(k6 q hq).lo, hGet_put_ne (by unfold wA; omega) (k6 q hq).gx, hGet_put_ne (by unfold wA; omega) (k6 q hq).gc⟩
  · rw [hGet_put_ne (by unfold wT; omega) (k7 q hq)]; unfold tFs; rw [updI_n (by omega), updI_n (by omega), updI_n (by omega)]
  · rw [hGet_put_ne (by unfold wS; omega) (k8 q hq)]; unfold sFs; rw [updI_n (by omega), updI_n (by omega), updI_n (by omega)]
  · rw [hGet_put_ne (by unfold wK; omega) (k9 q hq)]; unfold kFs; rw [updI_n (by omega), updI_n (by omega), updI_n (by omega), updI_n (by omega), updI_n (by omega), updI_n (by omega), updI_n (by omega), updI_n (by omega), updI_n (by omega)]
theorem isW.putw1 (k : isW h w c C nm g) (v : Int) : isW (hPut h w (.inl (9, (wFs w c).set 4 (.int (J v))))) w (updI c 1 v) C nm g := by
  obtain ⟨k0, k1, k2, k3, k4, k5, k6, k7, k8, k9⟩ := k
  refine ⟨k0, ?_, ?_, ?_, ?_, ?_, fun q hq => ?_, fun q hq => ?_, fun q hq => ?_, fun q hq => ?_⟩
  · rw [hGet_put_self]; unfold wFs; simp [updI, List.set]
  · exact hGet_put_ne (by unfold wA; omega) k2
  · exact hGet_put_ne (by unfold wA; omega) k3
  · exact hGet_put_ne (by unfold wA; omega) k4
  · rw [hGet_put_ne (by unfold wA; omega) k5]; unfold uFs; rw [updI_n (by omega)]
  · have hr := iAd_r (k := q)
    rw [updI_n (by omega)]; exact ⟨(k6 q hq).lo, hGet_put_ne (by unfold wA; omega) (k6 q hq).gx, hGet_put_ne (by unfold wA; omega) (k6 q hq).gc⟩
  · rw [hGet_put_ne (by unfold wT; omega) (k7 q hq)]; unfold tFs; rw [updI_n (by omega), updI_n (by omega), updI_n (by omega)]
  · rw [hGet_put_ne (by unfold wS; omega) (k8 q hq)]; unfold sFs; rw [updI_n (by omega), updI_n (by omega), updI_n (by omega)]
  · rw [hGet_put_ne (by unfold wK; omega) (k9 q hq)]; unfold kFs; rw [updI_n (by omega), updI_n (by omega), updI_n (by omega), updI_n (by omega), updI_n (by omega), updI_n (by omega), updI_n (by omega), updI_n (by omega), updI_n (by omega)]
theorem isW.putw2 (k : isW h w c C nm g) (v : Int) : isW (hPut h w (.inl (9, (wFs w c).set 5 (.int (J v))))) w (updI c 2 v) C nm g := by
  obtain ⟨k0, k1, k2, k3, k4, k5, k6, k7, k8, k9⟩ := k
  refine ⟨k0, ?_, ?_, ?_, ?_, ?_, fun q hq => ?_, fun q hq => ?_, fun q hq => ?_, fun q hq => ?_⟩
  · rw [hGet_put_self]; unfold wFs; simp [updI, List.set]
  · exact hGet_put_ne (by unfold wA; omega) k2
  · exact hGet_put_ne (by unfold wA; omega) k3
  · exact hGet_put_ne (by unfold wA; omega) k4
  · rw [hGet_put_ne (by unfold wA; omega) k5]; unfold uFs; rw [updI_n (by omega)]
  · have hr := iAd_r (k := q)
    rw [updI_n (by omega)]; exact ⟨(k6 q hq).lo, hGet_put_ne (by unfold wA; omega) (k6 q hq).gx, hGet_put_ne (by unfold wA; omega) (k6 q hq).gc⟩
  · rw [hGet_put_ne (by unfold wT; omega) (k7 q hq)]; unfold tFs; rw [updI_n (by omega), updI_n (by omega), updI_n (by omega)]
  · rw [hGet_put_ne (by unfold wS; omega) (k8 q hq)]; unfold sFs; rw [updI_n (by omega), updI_n (by omega), updI_n (by omega)]
  · rw [hGet_put_ne (by unfold wK; omega) (k9 q hq)]; unfold kFs; rw [updI_n (by omega), updI_n (by omega), updI_n (by omega), updI_n (by omega), updI_n (by omega), updI_n (by omega), updI_n (by omega), updI_n (by omega), updI_n (by omega)]
theorem isW.putw3 (k : isW h w c C nm g) (v : Int) : isW (hPut h w (.inl (9, (wFs w c).set 6 (.int (J v))))) w (updI c 3 v) C nm g := by
  obtain ⟨k0, k1, k2, k3, k4, k5, k6, k7, k8, k9⟩ := k
  refine ⟨k0, ?_, ?_, ?_, ?_, ?_, fun q hq => ?_, fun q hq => ?_, fun q hq => ?_, fun q hq => ?_⟩
  · rw [hGet_put_self]; unfold wFs; simp [updI, List.set]
  · exact hGet_put_ne (by unfold wA; omega) k2
  · exact hGet_put_ne (by unfold wA; omega) k3
  · exact hGet_put_ne (by unfold wA; omega) k4
  · rw [hGet_put_ne (by unfold wA; omega) k5]; unfold uFs; rw [updI_n (by omega)]
  · have hr := iAd_r (k := q)
    rw [updI_n (by omega)]; exact ⟨(k6 q hq).lo, hGet_put_ne (by unfold wA; omega) (k6 q hq).gx, hGet_put_ne (by unfold wA; omega) (k6 q hq).gc⟩
  · rw [hGet_put_ne (by unfold wT; omega) (k7 q hq)]; unfold tFs; rw [updI_n (by omega), updI_n (by omega), updI_n (by omega)]
  · rw [hGet_put_ne (by unfold wS; omega) (k8 q hq)]; unfold sFs; rw [updI_n (by omega), updI_n (by omega), updI_n (by omega)]
  · rw [hGet_put_ne (by unfold wK; omega) (k9 q hq)]; unfold kFs; rw [updI_n (by omega), updI_n (by omega), updI_n (by omega), updI_n (by omega), updI_n (by omega), updI_n (by omega), updI_n (by omega), updI_n (by omega), updI_n (by omega)]
theorem isW.putF (k : isW h w c C nm g) (v : Int) : isW (hPut h (wA w 10) (.inl (0, (uFs w c).set 3 (.int (J v))))) w (updI c 4 v) C nm g := by
  obtain ⟨k0, k1, k2, k3, k4, k5, k6, k7, k8, k9⟩ := k
  refine ⟨k0, ?_, ?_, ?_, ?_, ?_, fun q hq => ?_, fun q hq => ?_, fun q hq => ?_, fun q hq => ?_⟩
  · rw [hGet_put_ne (by unfold wA; omega) k1]; unfold wFs; rw [updI_n (by omega), updI_n (by omega), updI_n (by omega), updI_n (by omega)]
  · exact hGet_put_ne (by unfold wA; omega) k2
  · exact hGet_put_ne (by unfold wA; omega) k3
  · exact hGet_put_ne (by unfold wA; omega) k4
  · rw [hGet_put_self]; unfold uFs; simp [updI, List.set]
  · have hr := iAd_r (k := q)
    rw [updI_n (by omega)]; exact ⟨(k6 q hq).lo, hGet_put_ne (by unfold wA; omega) (k6 q hq).gx, hGet_put_ne (by unfold wA; omega) (k6 q hq).gc⟩
  · rw [hGet_put_ne (by unfold wA wT; omega) (k7 q hq)]; unfold tFs; rw [updI_n (by omega), updI_n (by omega), updI_n (by omega)]
  · rw [hGet_put_ne (by unfold wA wS; omega) (k8 q hq)]; unfold sFs; rw [updI_n (by omega), updI_n (by omega), updI_n (by omega)]
  · rw [hGet_put_ne (by unfold wA wK; omega) (k9 q hq)]; unfold kFs; rw [updI_n (by omega), updI_n (by omega), updI_n (by omega), updI_n (by omega), updI_n (by omega), updI_n (by omega), updI_n (by omega), updI_n (by omega), updI_n (by omega)]
theorem isW.putT0 (k : isW h w c C nm g) {q0 : Nat} (hq0 : q0 < 90) (r : Int64) : isW (hPut h (wT w q0) (.inl (8, (tFs c nm g q0).set 0 (.long r)))) w c C (updL nm q0 r) g := by
  obtain ⟨k0, k1, k2, k3, k4, k5, k6, k7, k8, k9⟩ := k
  refine ⟨k0, ?_, ?_, ?_, ?_, ?_, fun q hq => ?_, fun q hq => ?_, fun q hq => ?_, fun q hq => ?_⟩
  · rw [hGet_put_ne (by unfold wT; omega) k1]
  · exact hGet_put_ne (by unfold wA wT; omega) k2
  · exact hGet_put_ne (by unfold wA wT; omega) k3
  · exact hGet_put_ne (by unfold wA wT; omega) k4
  · rw [hGet_put_ne (by unfold wA wT; omega) k5]
  · have hr := iAd_r (k := q)
    exact ⟨(k6 q hq).lo, hGet_put_ne (by unfold wA wT; omega) (k6 q hq).gx, hGet_put_ne (by unfold wA wT; omega) (k6 q hq).gc⟩
  · by_cases e : q = q0
    · subst e
      rw [hGet_put_self]; unfold tFs
      simp [updI, updO, updL, List.set]
    · rw [hGet_put_ne (by unfold wT; omega) (k7 q hq)]; unfold tFs; rw [updL_n (by omega)]
  · rw [hGet_put_ne (by unfold wS wT; omega) (k8 q hq)]
  · rw [hGet_put_ne (by unfold wK wT; omega) (k9 q hq)]
theorem isW.putT1 (k : isW h w c C nm g) {q0 : Nat} (hq0 : q0 < 90) (r : Option Nat) : isW (hPut h (wT w q0) (.inl (8, (tFs c nm g q0).set 1 (va_rf r)))) w c C nm (updO g (2 * q0) r) := by
  obtain ⟨k0, k1, k2, k3, k4, k5, k6, k7, k8, k9⟩ := k
  refine ⟨k0, ?_, ?_, ?_, ?_, ?_, fun q hq => ?_, fun q hq => ?_, fun q hq => ?_, fun q hq => ?_⟩
  · rw [hGet_put_ne (by unfold wT; omega) k1]
  · exact hGet_put_ne (by unfold wA wT; omega) k2
  · exact hGet_put_ne (by unfold wA wT; omega) k3
  · exact hGet_put_ne (by unfold wA wT; omega) k4
  · rw [hGet_put_ne (by unfold wA wT; omega) k5]
  · have hr := iAd_r (k := q)
    exact ⟨(k6 q hq).lo, hGet_put_ne (by unfold wA wT; omega) (k6 q hq).gx, hGet_put_ne (by unfold wA wT; omega) (k6 q hq).gc⟩
  · by_cases e : q = q0
    · subst e
      rw [hGet_put_self]; unfold tFs
      simp [updI, updO, updL, List.set]
    · rw [hGet_put_ne (by unfold wT; omega) (k7 q hq)]; unfold tFs; rw [updO_n (by omega), updO_n (by omega)]
  · rw [hGet_put_ne (by unfold wS wT; omega) (k8 q hq)]
  · rw [hGet_put_ne (by unfold wK wT; omega) (k9 q hq)]; unfold kFs; rw [updO_n (by omega), updO_n (by omega)]
theorem isW.putT2 (k : isW h w c C nm g) {q0 : Nat} (hq0 : q0 < 90) (r : Option Nat) : isW (hPut h (wT w q0) (.inl (8, (tFs c nm g q0).set 2 (va_rf r)))) w c C nm (updO g (2 * q0 + 1) r) := by
  obtain ⟨k0, k1, k2, k3, k4, k5, k6, k7, k8, k9⟩ := k
  refine ⟨k0, ?_, ?_, ?_, ?_, ?_, fun q hq => ?_, fun q hq => ?_, fun q hq => ?_, fun q hq => ?_⟩
  · rw [hGet_put_ne (by unfold wT; omega) k1]
  · exact hGet_put_ne (by unfold wA wT; omega) k2
  · exact hGet_put_ne (by unfold wA wT; omega) k3
  · exact hGet_put_ne (by unfold wA wT; omega) k4
  · rw [hGet_put_ne (by unfold wA wT; omega) k5]
  · have hr := iAd_r (k := q)
    exact ⟨(k6 q hq).lo, hGet_put_ne (by unfold wA wT; omega) (k6 q hq).gx, hGet_put_ne (by unfold wA wT; omega) (k6 q hq).gc⟩
  · by_cases e : q = q0
    · subst e
      rw [hGet_put_self]; unfold tFs
      simp [updI, updO, updL, List.set]
    · rw [hGet_put_ne (by unfold wT; omega) (k7 q hq)]; unfold tFs; rw [updO_n (by omega), updO_n (by omega)]
  · rw [hGet_put_ne (by unfold wS wT; omega) (k8 q hq)]
  · rw [hGet_put_ne (by unfold wK wT; omega) (k9 q hq)]; unfold kFs; rw [updO_n (by omega), updO_n (by omega)]
theorem isW.putT3 (k : isW h w c C nm g) {q0 : Nat} (hq0 : q0 < 90) (v : Int) : isW (hPut h (wT w q0) (.inl (8, (tFs c nm g q0).set 3 (.int (J v))))) w (updI c (32 + 3 * q0) v) C nm g := by
  obtain ⟨k0, k1, k2, k3, k4, k5, k6, k7, k8, k9⟩ := k
  refine ⟨k0, ?_, ?_, ?_, ?_, ?_, fun q hq => ?_, fun q hq => ?_, fun q hq => ?_, fun q hq => ?_⟩
  · rw [hGet_put_ne (by unfold wT; omega) k1]; unfold wFs; rw [updI_n (by omega), updI_n (by omega), updI_n (by omega), updI_n (by omega)]
  · exact hGet_put_ne (by unfold wA wT; omega) k2
  · exact hGet_put_ne (by unfold wA wT; omega) k3
  · exact hGet_put_ne (by unfold wA wT; omega) k4
  · rw [hGet_put_ne (by unfold wA wT; omega) k5]; unfold uFs; rw [updI_n (by omega)]
  · have hr := iAd_r (k := q)
    rw [updI_n (by omega)]; exact ⟨(k6 q hq).lo, hGet_put_ne (by unfold wA wT; omega) (k6 q hq).gx, hGet_put_ne (by unfold wA wT; omega) (k6 q hq).gc⟩
  · by_cases e : q = q0
    · subst e
      rw [hGet_put_self]; unfold tFs
      simp [updI, updO, updL, List.set]
    · rw [hGet_put_ne (by unfold wT; omega) (k7 q hq)]; unfold tFs; rw [updI_n (by omega), updI_n (by omega), updI_n (by omega)]
  · rw [hGet_put_ne (by unfold wS wT; omega) (k8 q hq)]; unfold sFs; rw [updI_n (by omega), updI_n (by omega), updI_n (by omega)]
  · rw [hGet_put_ne (by unfold wK wT; omega) (k9 q hq)]; unfold kFs; rw [updI_n (by omega), updI_n (by omega), updI_n (by omega), updI_n (by omega), updI_n (by omega), updI_n (by omega), updI_n (by omega), updI_n (by omega), updI_n (by omega)]
theorem isW.putT4 (k : isW h w c C nm g) {q0 : Nat} (hq0 : q0 < 90) (v : Int) : isW (hPut h (wT w q0) (.inl (8, (tFs c nm g q0).set 4 (.int (J v))))) w (updI c (33 + 3 * q0) v) C nm g := by
  obtain ⟨k0, k1, k2, k3, k4, k5, k6, k7, k8, k9⟩ := k
  refine ⟨k0, ?_, ?_, ?_, ?_, ?_, fun q hq => ?_, fun q hq => ?_, fun q hq => ?_, fun q hq => ?_⟩
  · rw [hGet_put_ne (by unfold wT; omega) k1]; unfold wFs; rw [updI_n (by omega), updI_n (by omega), updI_n (by omega), updI_n (by omega)]
  · exact hGet_put_ne (by unfold wA wT; omega) k2
  · exact hGet_put_ne (by unfold wA wT; omega) k3
  · exact hGet_put_ne (by unfold wA wT; omega) k4
  · rw [hGet_put_ne (by unfold wA wT; omega) k5]; unfold uFs; rw [updI_n (by omega)]
  · have hr := iAd_r (k := q)
    rw [updI_n (by omega)]; exact ⟨(k6 q hq).lo, hGet_put_ne (by unfold wA wT; omega) (k6 q hq).gx, hGet_put_ne (by unfold wA wT; omega) (k6 q hq).gc⟩
  · by_cases e : q = q0
    · subst e
      rw [hGet_put_self]; unfold tFs
      simp [updI, updO, updL, List.set]
    · rw [hGet_put_ne (by unfold wT; omega) (k7 q hq)]; unfold tFs; rw [updI_n (by omega), updI_n (by omega), updI_n (by omega)]
  · rw [hGet_put_ne (by unfold wS wT; omega) (k8 q hq)]; unfold sFs; rw [updI_n (by omega), updI_n (by omega), updI_n (by omega)]
  · rw [hGet_put_ne (by unfold wK wT; omega) (k9 q hq)]; unfold kFs; rw [updI_n (by omega), updI_n (by omega), updI_n (by omega), updI_n (by omega), updI_n (by omega), updI_n (by omega), updI_n (by omega), updI_n (by omega), updI_n (by omega)]
theorem isW.putT5 (k : isW h w c C nm g) {q0 : Nat} (hq0 : q0 < 90) (v : Int) : isW (hPut h (wT w q0) (.inl (8, (tFs c nm g q0).set 5 (.int (J v))))) w (updI c (34 + 3 * q0) v) C nm g := by
  obtain ⟨k0, k1, k2, k3, k4, k5, k6, k7, k8, k9⟩ := k
  refine ⟨k0, ?_, ?_, ?_, ?_, ?_, fun q hq => ?_, fun q hq => ?_, fun q hq => ?_, fun q hq => ?_⟩
  · rw [hGet_put_ne (by unfold wT; omega) k1]; unfold wFs; rw [updI_n (by omega), updI_n (by omega), updI_n (by omega), updI_n (by omega)]
  · exact hGet_put_ne (by unfold wA wT; omega) k2
  · exact hGet_put_ne (by unfold wA wT; omega) k3
  · exact hGet_put_ne (by unfold wA wT; omega) k4
  · rw [hGet_put_ne (by unfold wA wT; omega) k5]; unfold uFs; rw [updI_n (by omega)]
  · have hr := iAd_r (k := q)
    rw [updI_n (by omega)]; exact ⟨(k6 q hq).lo, hGet_put_ne (by unfold wA wT; omega) (k6 q hq).gx, hGet_put_ne (by unfold wA wT; omega) (k6 q hq).gc⟩
  · by_cases e : q = q0
    · subst e
      rw [hGet_put_self]; unfold tFs
      simp [updI, updO, updL, List.set]
    · rw [hGet_put_ne (by unfold wT; omega) (k7 q hq)]; unfold tFs; rw [updI_n (by omega), updI_n (by omega), updI_n (by omega)]
  · rw [hGet_put_ne (by unfold wS wT; omega) (k8 q hq)]; unfold sFs; rw [updI_n (by omega), updI_n (by omega), updI_n (by omega)]
  · rw [hGet_put_ne (by unfold wK wT; omega) (k9 q hq)]; unfold kFs; rw [updI_n (by omega), updI_n (by omega), updI_n (by omega), updI_n (by omega), updI_n (by omega), updI_n (by omega), updI_n (by omega), updI_n (by omega), updI_n (by omega)]
theorem isW.putS0 (k : isW h w c C nm g) {q0 : Nat} (hq0 : q0 < 60) (v : Int) : isW (hPut h (wS w q0) (.inl (4, (sFs c q0).set 0 (.int (J v))))) w (updI c (304 + 3 * q0) v) C nm g := by
  obtain ⟨k0, k1, k2, k3, k4, k5, k6, k7, k8, k9⟩ := k
  refine ⟨k0, ?_, ?_, ?_, ?_, ?_, fun q hq => ?_, fun q hq => ?_, fun q hq => ?_, fun q hq => ?_⟩
  · rw [hGet_put_ne (by unfold wS; omega) k1]; unfold wFs; rw [updI_n (by omega), updI_n (by omega), updI_n (by omega), updI_n (by omega)]
  · exact hGet_put_ne (by unfold wA wS; omega) k2
  · exact hGet_put_ne (by unfold wA wS; omega) k3
  · exact hGet_put_ne (by unfold wA wS; omega) k4
  · rw [hGet_put_ne (by unfold wA wS; omega) k5]; unfold uFs; rw [updI_n (by omega)]
  · have hr := iAd_r (k := q)
    rw [updI_n (by omega)]; exact ⟨(k6 q hq).lo, hGet_put_ne (by unfold wA wS; omega) (k6 q hq).gx, hGet_put_ne (by unfold wA wS; omega) (k6 q hq).gc⟩
  · rw [hGet_put_ne (by unfold wS wT; omega) (k7 q hq)]; unfold tFs; rw [updI_n (by omega), updI_n (by omega), updI_n (by omega)]
  · by_cases e : q = q0
    · subst e
      rw [hGet_put_self]; unfold sFs
      simp [updI, updO, updL, List.set]
    · rw [hGet_put_ne (by unfold wS; omega) (k8 q hq)]; unfold sFs; rw [updI_n (by omega), updI_n (by omega), updI_n (by omega)]
  · rw [hGet_put_ne (by unfold wK wS; omega) (k9 q hq)]; unfold kFs; rw [updI_n (by omega), updI_n (by omega), updI_n (by omega), updI_n (by omega), updI_n (by omega), updI_n (by omega), updI_n (by omega), updI_n (by omega), updI_n (by omega)]
theorem isW.putS1 (k : isW h w c C nm g) {q0 : Nat} (hq0 : q0 < 60) (v : Int) : isW (hPut h (wS w q0) (.inl (4, (sFs c q0).set 1 (.int (J v))))) w (updI c (305 + 3 * q0) v) C nm g := by
  obtain ⟨k0, k1, k2, k3, k4, k5, k6, k7, k8, k9⟩ := k
  refine ⟨k0, ?_, ?_, ?_, ?_, ?_, fun q hq => ?_, fun q hq => ?_, fun q hq => ?_, fun q hq => ?_⟩
  · rw [hGet_put_ne (by unfold wS; omega) k1]; unfold wFs; rw [updI_n (by omega), updI_n (by omega), updI_n (by omega), updI_n (by omega)]
  · exact hGet_put_ne (by unfold wA wS; omega) k2
  · exact hGet_put_ne (by unfold wA wS; omega) k3
  · exact hGet_put_ne (by unfold wA wS; omega) k4
  · rw [hGet_put_ne (by unfold wA wS; omega) k5]; unfold uFs; rw [updI_n (by omega)]
  · have hr := iAd_r (k := q)
    rw [updI_n (by omega)]; exact ⟨(k6 q hq).lo, hGet_put_ne (by unfold wA wS; omega) (k6 q hq).gx, hGet_put_ne (by unfold wA wS; omega) (k6 q hq).gc⟩
  · rw [hGet_put_ne (by unfold wS wT; omega) (k7 q hq)]; unfold tFs; rw [updI_n (by omega), updI_n (by omega), updI_n (by omega)]
  · by_cases e : q = q0
    · subst e
      rw [hGet_put_self]; unfold sFs
      simp [updI, updO, updL, List.set]
    · rw [hGet_put_ne (by unfold wS; omega) (k8 q hq)]; unfold sFs; rw [updI_n (by omega), updI_n (by omega), updI_n (by omega)]
  · rw [hGet_put_ne (by unfold wK wS; omega) (k9 q hq)]; unfold kFs; rw [updI_n (by omega), updI_n (by omega), updI_n (by omega), updI_n (by omega), updI_n (by omega), updI_n (by omega), updI_n (by omega), updI_n (by omega), updI_n (by omega)]
theorem isW.putS2 (k : isW h w c C nm g) {q0 : Nat} (hq0 : q0 < 60) (v : Int) : isW (hPut h (wS w q0) (.inl (4, (sFs c q0).set 2 (.int (J v))))) w (updI c (306 + 3 * q0) v) C nm g := by
  obtain ⟨k0, k1, k2, k3, k4, k5, k6, k7, k8, k9⟩ := k
  refine ⟨k0, ?_, ?_, ?_, ?_, ?_, fun q hq => ?_, fun q hq => ?_, fun q hq => ?_, fun q hq => ?_⟩
  · rw [hGet_put_ne (by unfold wS; omega) k1]; unfold wFs; rw [updI_n (by omega), updI_n (by omega), updI_n (by omega), updI_n (by omega)]
  · exact hGet_put_ne (by unfold wA wS; omega) k2
  · exact hGet_put_ne (by unfold wA wS; omega) k3
  · exact hGet_put_ne (by unfold wA wS; omega) k4
  · rw [hGet_put_ne (by unfold wA wS; omega) k5]; unfold uFs; rw [updI_n (by omega)]
  · have hr := iAd_r (k := q)
    rw [updI_n (by omega)]; exact ⟨(k6 q hq).lo, hGet_put_ne (by unfold wA wS; omega) (k6 q hq).gx, hGet_put_ne (by unfold wA wS; omega) (k6 q hq).gc⟩
  · rw [hGet_put_ne (by unfold wS wT; omega) (k7 q hq)]; unfold tFs; rw [updI_n (by omega), updI_n (by omega), updI_n (by omega)]
  · by_cases e : q = q0
    · subst e
      rw [hGet_put_self]; unfold sFs
      simp [updI, updO, updL, List.set]
    · rw [hGet_put_ne (by unfold wS; omega) (k8 q hq)]; unfold sFs; rw [updI_n (by omega), updI_n (by omega), updI_n (by omega)]
  · rw [hGet_put_ne (by unfold wK wS; omega) (k9 q hq)]; unfold kFs; rw [updI_n (by omega), updI_n (by omega), updI_n (by omega), updI_n (by omega), updI_n (by omega), updI_n (by omega), updI_n (by omega), updI_n (by omega), updI_n (by omega)]
theorem isW.putK0 (k : isW h w c C nm g) {q0 : Nat} (hq0 : q0 < 10) (r : Option Nat) : isW (hPut h (wK w q0) (.inl (7, (kFs c g q0).set 0 (va_rf r)))) w c C nm (updO g (180 + 2 * q0) r) := by
  obtain ⟨k0, k1, k2, k3, k4, k5, k6, k7, k8, k9⟩ := k
  refine ⟨k0, ?_, ?_, ?_, ?_, ?_, fun q hq => ?_, fun q hq => ?_, fun q hq => ?_, fun q hq => ?_⟩
  · rw [hGet_put_ne (by unfold wK; omega) k1]
  · exact hGet_put_ne (by unfold wA wK; omega) k2
  · exact hGet_put_ne (by unfold wA wK; omega) k3
  · exact hGet_put_ne (by unfold wA wK; omega) k4
  · rw [hGet_put_ne (by unfold wA wK; omega) k5]
  · have hr := iAd_r (k := q)
    exact ⟨(k6 q hq).lo, hGet_put_ne (by unfold wA wK; omega) (k6 q hq).gx, hGet_put_ne (by unfold wA wK; omega) (k6 q hq).gc⟩
  · rw [hGet_put_ne (by unfold wK wT; omega) (k7 q hq)]; unfold tFs; rw [updO_n (by omega), updO_n (by omega)]
  · rw [hGet_put_ne (by unfold wK wS; omega) (k8 q hq)]
  · by_cases e : q = q0
    · subst e
      rw [hGet_put_self]; unfold kFs
      simp [updI, updO, updL, List.set]
    · rw [hGet_put_ne (by unfold wK; omega) (k9 q hq)]; unfold kFs; rw [updO_n (by omega), updO_n (by omega)]
theorem isW.putK1 (k : isW h w c C nm g) {q0 : Nat} (hq0 : q0 < 10) (r : Option Nat) : isW (hPut h (wK w q0) (.inl (7, (kFs c g q0).set 1 (va_rf r)))) w c C nm (updO g (181 + 2 * q0) r) := by
  obtain ⟨k0, k1, k2, k3, k4, k5, k6, k7, k8, k9⟩ := k
  refine ⟨k0, ?_, ?_, ?_, ?_, ?_, fun q hq => ?_, fun q hq => ?_, fun q hq => ?_, fun q hq => ?_⟩
  · rw [hGet_put_ne (by unfold wK; omega) k1]
  · exact hGet_put_ne (by unfold wA wK; omega) k2
  · exact hGet_put_ne (by unfold wA wK; omega) k3
  · exact hGet_put_ne (by unfold wA wK; omega) k4
  · rw [hGet_put_ne (by unfold wA wK; omega) k5]
  · have hr := iAd_r (k := q)
    exact ⟨(k6 q hq).lo, hGet_put_ne (by unfold wA wK; omega) (k6 q hq).gx, hGet_put_ne (by unfold wA wK; omega) (k6 q hq).gc⟩
  · rw [hGet_put_ne (by unfold wK wT; omega) (k7 q hq)]; unfold tFs; rw [updO_n (by omega), updO_n (by omega)]
  · rw [hGet_put_ne (by unfold wK wS; omega) (k8 q hq)]
  · by_cases e : q = q0
    · subst e
      rw [hGet_put_self]; unfold kFs
      simp [updI, updO, updL, List.set]
    · rw [hGet_put_ne (by unfold wK; omega) (k9 q hq)]; unfold kFs; rw [updO_n (by omega), updO_n (by omega)]
theorem isW.putK2 (k : isW h w c C nm g) {q0 : Nat} (hq0 : q0 < 10) (v : Int) : isW (hPut h (wK w q0) (.inl (7, (kFs c g q0).set 2 (.int (J v))))) w (updI c (488 + 9 * q0) v) C nm g := by
  obtain ⟨k0, k1, k2, k3, k4, k5, k6, k7, k8, k9⟩ := k
  refine ⟨k0, ?_, ?_, ?_, ?_, ?_, fun q hq => ?_, fun q hq => ?_, fun q hq => ?_, fun q hq => ?_⟩
  · rw [hGet_put_ne (by unfold wK; omega) k1]; unfold wFs; rw [updI_n (by omega), updI_n (by omega), updI_n (by omega), updI_n (by omega)]
  · exact hGet_put_ne (by unfold wA wK; omega) k2
  · exact hGet_put_ne (by unfold wA wK; omega) k3
  · exact hGet_put_ne (by unfold wA wK; omega) k4
  · rw [hGet_put_ne (by unfold wA wK; omega) k5]; unfold uFs; rw [updI_n (by omega)]
  · have hr := iAd_r (k := q)
    rw [updI_n (by omega)]; exact ⟨(k6 q hq).lo, hGet_put_ne (by unfold wA wK; omega) (k6 q hq).gx, hGet_put_ne (by unfold wA wK; omega) (k6 q hq).gc⟩
  · rw [hGet_put_ne (by unfold wK wT; omega) (k7 q hq)]; unfold tFs; rw [updI_n (by omega), updI_n (by omega), updI_n (by omega)]
  · rw [hGet_put_ne (by unfold wK wS; omega) (k8 q hq)]; unfold sFs; rw [updI_n (by omega), updI_n (by omega), updI_n (by omega)]
  · by_cases e : q = q0
    · subst e
      rw [hGet_put_self]; unfold kFs
      simp [updI, updO, updL, List.set]
    · rw [hGet_put_ne (by unfold wK; omega) (k9 q hq)]; unfold kFs; rw [updI_n (by omega), updI_n (by omega), updI_n (by omega), updI_n (by omega), updI_n (by omega), updI_n (by omega), updI_n (by omega), updI_n (by omega), updI_n (by omega)]
theorem isW.putK3 (k : isW h w c C nm g) {q0 : Nat} (hq0 : q0 < 10) (v : Int) : isW (hPut h (wK w q0) (.inl (7, (kFs c g q0).set 3 (.int (J v))))) w (updI c (489 + 9 * q0) v) C nm g := by
  obtain ⟨k0, k1, k2, k3, k4, k5, k6, k7, k8, k9⟩ := k
  refine ⟨k0, ?_, ?_, ?_, ?_, ?_, fun q hq => ?_, fun q hq => ?_, fun q hq => ?_, fun q hq => ?_⟩
  · rw [hGet_put_ne (by unfold wK; omega) k1]; unfold wFs; rw [updI_n (by omega), updI_n (by omega), updI_n (by omega), updI_n (by omega)]
  · exact hGet_put_ne (by unfold wA wK; omega) k2
  · exact hGet_put_ne (by unfold wA wK; omega) k3
  · exact hGet_put_ne (by unfold wA wK; omega) k4
  · rw [hGet_put_ne (by unfold wA wK; omega) k5]; unfold uFs; rw [updI_n (by omega)]
  · have hr := iAd_r (k := q)
    rw [updI_n (by omega)]; exact ⟨(k6 q hq).lo, hGet_put_ne (by unfold wA wK; omega) (k6 q hq).gx, hGet_put_ne (by unfold wA wK; omega) (k6 q hq).gc⟩
  · rw [hGet_put_ne (by unfold wK wT; omega) (k7 q hq)]; unfold tFs; rw [updI_n (by omega), updI_n (by omega), updI_n (by omega)]
  · rw [hGet_put_ne (by unfold wK wS; omega) (k8 q hq)]; unfold sFs; rw [updI_n (by omega), updI_n (by omega), updI_n (by omega)]
  · by_cases e : q = q0
    · subst e
      rw [hGet_put_self]; unfold kFs
      simp [updI, updO, updL, List.set]
    · rw [hGet_put_ne (by unfold wK; omega) (k9 q hq)]; unfold kFs; rw [updI_n (by omega), updI_n (by omega), updI_n (by omega), updI_n (by omega), updI_n (by omega), updI_n (by omega), updI_n (by omega), updI_n (by omega), updI_n (by omega)]
theorem isW.putK4 (k : isW h w c C nm g) {q0 : Nat} (hq0 : q0 < 10) (v : Int) : isW (hPut h (wK w q0) (.inl (7, (kFs c g q0).set 4 (.int (J v))))) w (updI c (490 + 9 * q0) v) C nm g := by
  obtain ⟨k0, k1, k2, k3, k4, k5, k6, k7, k8, k9⟩ := k
  refine ⟨k0, ?_, ?_, ?_, ?_, ?_, fun q hq => ?_, fun q hq => ?_, fun q hq => ?_, fun q hq => ?_⟩
  · rw [hGet_put_ne (by unfold wK; omega) k1]; unfold wFs; rw [updI_n (by omega), updI_n (by omega), updI_n (by omega), updI_n (by omega)]
  · exact hGet_put_ne (by unfold wA wK; omega) k2
  · exact hGet_put_ne (by unfold wA wK; omega) k3
  · exact hGet_put_ne (by unfold wA wK; omega) k4
  · rw [hGet_put_ne (by unfold wA wK; omega) k5]; unfold uFs; rw [updI_n (by omega)]
  · have hr := iAd_r (k := q)
    rw [updI_n (by omega)]; exact ⟨(k6 q hq).lo, hGet_put_ne (by unfold wA wK; omega) (k6 q hq).gx, hGet_put_ne (by unfold wA wK; omega) (k6 q hq).gc⟩
  · rw [hGet_put_ne (by unfold wK wT; omega) (k7 q hq)]; unfold tFs; rw [updI_n (by omega), updI_n (by omega), updI_n (by omega)]
  · rw [hGet_put_ne (by unfold wK wS; omega) (k8 q hq)]; unfold sFs; rw [updI_n (by omega), updI_n (by omega), updI_n (by omega)]
  · by_cases e : q = q0
    · subst e
      rw [hGet_put_self]; unfold kFs
      simp [updI, updO, updL, List.set]
    · rw [hGet_put_ne (by unfold wK; omega) (k9 q hq)]; unfold kFs; rw [updI_n (by omega), updI_n (by omega), updI_n (by omega), updI_n (by omega), updI_n (by omega), updI_n (by omega), updI_n (by omega), updI_n (by omega), updI_n (by omega)]
theorem isW.putK5 (k : isW h w c C nm g) {q0 : Nat} (hq0 : q0 < 10) (v : Int) : isW (hPut h (wK w q0) (.inl (7, (kFs c g q0).set 5 (.int (J v))))) w (updI c (491 + 9 * q0) v) C nm g := by
  obtain ⟨k0, k1, k2, k3, k4, k5, k6, k7, k8, k9⟩ := k
  refine ⟨k0, ?_, ?_, ?_, ?_, ?_, fun q hq => ?_, fun q hq => ?_, fun q hq => ?_, fun q hq => ?_⟩
  · rw [hGet_put_ne (by unfold wK; omega) k1]; unfold wFs; rw [updI_n (by omega), updI_n (by omega), updI_n (by omega), updI_n (by omega)]
  · exact hGet_put_ne (by unfold wA wK; omega) k2
  · exact hGet_put_ne (by unfold wA wK; omega) k3
  · exact hGet_put_ne (by unfold wA wK; omega) k4
  · rw [hGet_put_ne (by unfold wA wK; omega) k5]; unfold uFs; rw [updI_n (by omega)]
  · have hr := iAd_r (k := q)
    rw [updI_n (by omega)]; exact ⟨(k6 q hq).lo, hGet_put_ne (by unfold wA wK; omega) (k6 q hq).gx, hGet_put_ne (by unfold wA wK; omega) (k6 q hq).gc⟩
  · rw [hGet_put_ne (by unfold wK wT; omega) (k7 q hq)]; unfold tFs; rw [updI_n (by omega), updI_n (by omega), updI_n (by omega)]
  · rw [hGet_put_ne (by unfold wK wS; omega) (k8 q hq)]; unfold sFs; rw [updI_n (by omega), updI_n (by omega), updI_n (by omega)]
  · by_cases e : q = q0
    · subst e
      rw [hGet_put_self]; unfold kFs
      simp [updI, updO, updL, List.set]
    · rw [hGet_put_ne (by unfold wK; omega) (k9 q hq)]; unfold kFs; rw [updI_n (by omega), updI_n (by omega), updI_n (by omega), updI_n (by omega), updI_n (by omega), updI_n (by omega), updI_n (by omega), updI_n (by omega), updI_n (by omega)]
theorem isW.putK6 (k : isW h w c C nm g) {q0 : Nat} (hq0 : q0 < 10) (v : Int) : isW (hPut h (wK w q0) (.inl (7, (kFs c g q0).set 6 (.int (J v))))) w (updI c (492 + 9 * q0) v) C nm g := by
  obtain ⟨k0, k1, k2, k3, k4, k5, k6, k7, k8, k9⟩ := k
  refine ⟨k0, ?_, ?_, ?_, ?_, ?_, fun q hq => ?_, fun q hq => ?_, fun q hq => ?_, fun q hq => ?_⟩
  · rw [hGet_put_ne (by unfold wK; omega) k1]; unfold wFs; rw [updI_n (by omega), updI_n (by omega), updI_n (by omega), updI_n (by omega)]
  · exact hGet_put_ne (by unfold wA wK; omega) k2
  · exact hGet_put_ne (by unfold wA wK; omega) k3
  · exact hGet_put_ne (by unfold wA wK; omega) k4
  · rw [hGet_put_ne (by unfold wA wK; omega) k5]; unfold uFs; rw [updI_n (by omega)]
  · have hr := iAd_r (k := q)
    rw [updI_n (by omega)]; exact ⟨(k6 q hq).lo, hGet_put_ne (by unfold wA wK; omega) (k6 q hq).gx, hGet_put_ne (by unfold wA wK; omega) (k6 q hq).gc⟩
  · rw [hGet_put_ne (by unfold wK wT; omega) (k7 q hq)]; unfold tFs; rw [updI_n (by omega), updI_n (by omega), updI_n (by omega)]
  · rw [hGet_put_ne (by unfold wK wS; omega) (k8 q hq)]; unfold sFs; rw [updI_n (by omega), updI_n (by omega), updI_n (by omega)]
  · by_cases e : q = q0
    · subst e
      rw [hGet_put_self]; unfold kFs
      simp [updI, updO, updL, List.set]
    · rw [hGet_put_ne (by unfold wK; omega) (k9 q hq)]; unfold kFs; rw [updI_n (by omega), updI_n (by omega), updI_n (by omega), updI_n (by omega), updI_n (by omega), updI_n (by omega), updI_n (by omega), updI_n (by omega), updI_n (by omega)]
theorem isW.putK7 (k : isW h w c C nm g) {q0 : Nat} (hq0 : q0 < 10) (v : Int) : isW (hPut h (wK w q0) (.inl (7, (kFs c g q0).set 7 (.int (J v))))) w (updI c (493 + 9 * q0) v) C nm g := by
  obtain ⟨k0, k1, k2, k3, k4, k5, k6, k7, k8, k9⟩ := k
  refine ⟨k0, ?_, ?_, ?_, ?_, ?_, fun q hq => ?_, fun q hq => ?_, fun q hq => ?_, fun q hq => ?_⟩
  · rw [hGet_put_ne (by unfold wK; omega) k1]; unfold wFs; rw [updI_n (by omega), updI_n (by omega), updI_n (by omega), updI_n (by omega)]
  · exact hGet_put_ne (by unfold wA wK; omega) k2
  · exact hGet_put_ne (by unfold wA wK; omega) k3
  · exact hGet_put_ne (by unfold wA wK; omega) k4
  · rw [hGet_put_ne (by unfold wA wK; omega) k5]; unfold uFs; rw [updI_n (by omega)]
  · have hr := iAd_r (k := q)
    rw [updI_n (by omega)]; exact ⟨(k6 q hq).lo, hGet_put_ne (by unfold wA wK; omega) (k6 q hq).gx, hGet_put_ne (by unfold wA wK; omega) (k6 q hq).gc⟩
  · rw [hGet_put_ne (by unfold wK wT; omega) (k7 q hq)]; unfold tFs; rw [updI_n (by omega), updI_n (by omega), updI_n (by omega)]
  · rw [hGet_put_ne (by unfold wK wS; omega) (k8 q hq)]; unfold sFs; rw [updI_n (by omega), updI_n (by omega), updI_n (by omega)]
  · by_cases e : q = q0
    · subst e
      rw [hGet_put_self]; unfold kFs
      simp [updI, updO, updL, List.set]
    · rw [hGet_put_ne (by unfold wK; omega) (k9 q hq)]; unfold kFs; rw [updI_n (by omega), updI_n (by omega), updI_n (by omega), updI_n (by omega), updI_n (by omega), updI_n (by omega), updI_n (by omega), updI_n (by omega), updI_n (by omega)]
theorem isW.putK8 (k : isW h w c C nm g) {q0 : Nat} (hq0 : q0 < 10) (v : Int) : isW (hPut h (wK w q0) (.inl (7, (kFs c g q0).set 8 (.int (J v))))) w (updI c (494 + 9 * q0) v) C nm g := by
  obtain ⟨k0, k1, k2, k3, k4, k5, k6, k7, k8, k9⟩ := k
  refine ⟨k0, ?_, ?_, ?_, ?_, ?_, fun q hq => ?_, fun q hq => ?_, fun q hq => ?_, fun q hq => ?_⟩
  · rw [hGet_put_ne (by unfold wK; omega) k1]; unfold wFs; rw [updI_n (by omega), updI_n (by omega), updI_n (by omega), updI_n (by omega)]
  · exact hGet_put_ne (by unfold wA wK; omega) k2
  · exact hGet_put_ne (by unfold wA wK; omega) k3
  · exact hGet_put_ne (by unfold wA wK; omega) k4
  · rw [hGet_put_ne (by unfold wA wK; omega) k5]; unfold uFs; rw [updI_n (by omega)]
  · have hr := iAd_r (k := q)
    rw [updI_n (by omega)]; exact ⟨(k6 q hq).lo, hGet_put_ne (by unfold wA wK; omega) (k6 q hq).gx, hGet_put_ne (by unfold wA wK; omega) (k6 q hq).gc⟩
  · rw [hGet_put_ne (by unfold wK wT; omega) (k7 q hq)]; unfold tFs; rw [updI_n (by omega), updI_n (by omega), updI_n (by omega)]
  · rw [hGet_put_ne (by unfold wK wS; omega) (k8 q hq)]; unfold sFs; rw [updI_n (by omega), updI_n (by omega), updI_n (by omega)]
  · by_cases e : q = q0
    · subst e
      rw [hGet_put_self]; unfold kFs
      simp [updI, updO, updL, List.set]
    · rw [hGet_put_ne (by unfold wK; omega) (k9 q hq)]; unfold kFs; rw [updI_n (by omega), updI_n (by omega), updI_n (by omega), updI_n (by omega), updI_n (by omega), updI_n (by omega), updI_n (by omega), updI_n (by omega), updI_n (by omega)]
theorem isW.putK9 (k : isW h w c C nm g) {q0 : Nat} (hq0 : q0 < 10) (v : Int) : isW (hPut h (wK w q0) (.inl (7, (kFs c g q0).set 9 (.int (J v))))) w (updI c (495 + 9 * q0) v) C nm g := by
  obtain ⟨k0, k1, k2, k3, k4, k5, k6, k7, k8, k9⟩ := k
  refine ⟨k0, ?_, ?_, ?_, ?_, ?_, fun q hq => ?_, fun q hq => ?_, fun q hq => ?_, fun q hq => ?_⟩
  · rw [hGet_put_ne (by unfold wK; omega) k1]; unfold wFs; rw [updI_n (by omega), updI_n (by omega), updI_n (by omega), updI_n (by omega)]
  · exact hGet_put_ne (by unfold wA wK; omega) k2
  · exact hGet_put_ne (by unfold wA wK; omega) k3
  · exact hGet_put_ne (by unfold wA wK; omega) k4
  · rw [hGet_put_ne (by unfold wA wK; omega) k5]; unfold uFs; rw [updI_n (by omega)]
  · have hr := iAd_r (k := q)
    rw [updI_n (by omega)]; exact ⟨(k6 q hq).lo, hGet_put_ne (by unfold wA wK; omega) (k6 q hq).gx, hGet_put_ne (by unfold wA wK; omega) (k6 q hq).gc⟩
  · rw [hGet_put_ne (by unfold wK wT; omega) (k7 q hq)]; unfold tFs; rw [updI_n (by omega), updI_n (by omega), updI_n (by omega)]
  · rw [hGet_put_ne (by unfold wK wS; omega) (k8 q hq)]; unfold sFs; rw [updI_n (by omega), updI_n (by omega), updI_n (by omega)]
  · by_cases e : q = q0
    · subst e
      rw [hGet_put_self]; unfold kFs
      simp [updI, updO, updL, List.set]
    · rw [hGet_put_ne (by unfold wK; omega) (k9 q hq)]; unfold kFs; rw [updI_n (by omega), updI_n (by omega), updI_n (by omega), updI_n (by omega), updI_n (by omega), updI_n (by omega), updI_n (by omega), updI_n (by omega), updI_n (by omega)]
theorem isW.putK10 (k : isW h w c C nm g) {q0 : Nat} (hq0 : q0 < 10) (v : Int) : isW (hPut h (wK w q0) (.inl (7, (kFs c g q0).set 10 (.int (J v))))) w (updI c (496 + 9 * q0) v) C nm g := by
  obtain ⟨k0, k1, k2, k3, k4, k5, k6, k7, k8, k9⟩ := k
  refine ⟨k0, ?_, ?_, ?_, ?_, ?_, fun q hq => ?_, fun q hq => ?_, fun q hq => ?_, fun q hq => ?_⟩
  · rw [hGet_put_ne (by unfold wK; omega) k1]; unfold wFs; rw [updI_n (by omega), updI_n (by omega), updI_n (by omega), updI_n (by omega)]
  · exact hGet_put_ne (by unfold wA wK; omega) k2
  · exact hGet_put_ne (by unfold wA wK; omega) k3
  · exact hGet_put_ne (by unfold wA wK; omega) k4
  · rw [hGet_put_ne (by unfold wA wK; omega) k5]; unfold uFs; rw [updI_n (by omega)]
  · have hr := iAd_r (k := q)
    rw [updI_n (by omega)]; exact ⟨(k6 q hq).lo, hGet_put_ne (by unfold wA wK; omega) (k6 q hq).gx, hGet_put_ne (by unfold wA wK; omega) (k6 q hq).gc⟩
  · rw [hGet_put_ne (by unfold wK wT; omega) (k7 q hq)]; unfold tFs; rw [updI_n (by omega), updI_n (by omega), updI_n (by omega)]
  · rw [hGet_put_ne (by unfold wK wS; omega) (k8 q hq)]; unfold sFs; rw [updI_n (by omega), updI_n (by omega), updI_n (by omega)]
  · by_cases e : q = q0
    · subst e
      rw [hGet_put_self]; unfold kFs
      simp [updI, updO, updL, List.set]
    · rw [hGet_put_ne (by unfold wK; omega) (k9 q hq)]; unfold kFs; rw [updI_n (by omega), updI_n (by omega), updI_n (by omega), updI_n (by omega), updI_n (by omega), updI_n (by omega), updI_n (by omega), updI_n (by omega), updI_n (by omega)]
end IW
theorem fit_J0 : fits .boolean (.int (J 0)) = true := by rw [← J_0]; decide +kernel
theorem fit_J1 : fits .boolean (.int (J 1)) = true := by rw [← J_1]; decide +kernel
section RW
variable {G : mG} {l : Launch} {d : Nat} {M : mM} {pc : Nat} {ls : List (Option Value)} {st : List Value} {h : mH} {Q : Option Value → mH → Prop} {w : Nat} {c : Nat → Int} {C : Nat → Nat → Int} {nm : Nat → Int64} {g : Nat → Option Nat}
theorem rc_putw0 {index : Nat} {v : Int} (hdg : decode M.2.1 pc = .ok (.putfield index, 3)) (hf : mFld M.1.cls index 9 3 .int false) (hW : isW h w c C nm g)  
    (K : ∀ h1, isW h1 w (updI c 0 v) C nm g → Same (wBlk w) h h1 → RUN G l d M (pc + 3) ls st h1 Q) : RUN G l d M pc ls (.int (J v) :: .ref w :: st) h Q :=
  r_putf hdg hf hW.gx hW.lo rfl rfl (Nat.le_of_ble_eq_true rfl) (K _ (hW.putw0 v) (Same.refl.put (by unfold wBlk; omega)))
theorem rc_putw1 {index : Nat} {v : Int} (hdg : decode M.2.1 pc = .ok (.putfield index, 3)) (hf : mFld M.1.cls index 9 4 .int false) (hW : isW h w c C nm g)  
    (K : ∀ h1, isW h1 w (updI c 1 v) C nm g → Same (wBlk w) h h1 → RUN G l d M (pc + 3) ls st h1 Q) : RUN G l d M pc ls (.int (J v) :: .ref w :: st) h Q :=
  r_putf hdg hf hW.gx hW.lo rfl rfl (Nat.le_of_ble_eq_true rfl) (K _ (hW.putw1 v) (Same.refl.put (by unfold wBlk; omega)))
theorem rc_putw2 {index : Nat} {v : Int} (hdg : decode M.2.1 pc = .ok (.putfield index, 3)) (hf : mFld M.1.cls index 9 5 .int false) (hW : isW h w c C nm g)  
    (K : ∀ h1, isW h1 w (updI c 2 v) C nm g → Same (wBlk w) h h1 → RUN G l d M (pc + 3) ls st h1 Q) : RUN G l d M pc ls (.int (J v) :: .ref w :: st) h Q :=
  r_putf hdg hf hW.gx hW.lo rfl rfl (Nat.le_of_ble_eq_true rfl) (K _ (hW.putw2 v) (Same.refl.put (by unfold wBlk; omega)))
theorem rc_putw3 {index : Nat} {v : Int} (hdg : decode M.2.1 pc = .ok (.putfield index, 3)) (hf : mFld M.1.cls index 9 6 .int false) (hW : isW h w c C nm g)  
    (K : ∀ h1, isW h1 w (updI c 3 v) C nm g → Same (wBlk w) h h1 → RUN G l d M (pc + 3) ls st h1 Q) : RUN G l d M pc ls (.int (J v) :: .ref w :: st) h Q :=
  r_putf hdg hf hW.gx hW.lo rfl rfl (Nat.le_of_ble_eq_true rfl) (K _ (hW.putw3 v) (Same.refl.put (by unfold wBlk; omega)))
theorem rc_putF {index : Nat} {v : Int} (hdg : decode M.2.1 pc = .ok (.putfield index, 3)) (hf : mFld M.1.cls index 0 3 .int false) (hW : isW h w c C nm g)  
    (K : ∀ h1, isW h1 w (updI c 4 v) C nm g → Same (wBlk w) h h1 → RUN G l d M (pc + 3) ls st h1 Q) : RUN G l d M pc ls (.int (J v) :: .ref (wA w 10) :: st) h Q :=
  r_putf hdg hf hW.gF (hW.loA 10) rfl rfl (Nat.le_of_ble_eq_true rfl) (K _ (hW.putF v) (Same.refl.put (by unfold wBlk wA; omega)))
theorem rc_putT0 {index : Nat} {r : Int64} {q0 : Nat} (hdg : decode M.2.1 pc = .ok (.putfield index, 3)) (hf : mFld M.1.cls index 8 0 .long false) (hW : isW h w c C nm g) (hq0 : q0 < 90) 
    (K : ∀ h1, isW h1 w c C (updL nm q0 r) g → Same (wBlk w) h h1 → RUN G l d M (pc + 3) ls st h1 Q) : RUN G l d M pc ls (.long r :: .ref (wT w q0) :: st) h Q :=
  r_putf hdg hf (hW.gT hq0) (hW.loT q0) rfl rfl (Nat.le_of_ble_eq_true rfl) (K _ (hW.putT0 hq0 r) (Same.refl.put (by unfold wBlk wT; omega)))
theorem rc_putT1 {index : Nat} {r : Option Nat} {q0 : Nat} (hdg : decode M.2.1 pc = .ok (.putfield index, 3)) (hf : mFld M.1.cls index 8 1 (.object "ScopeWarden$Step") false) (hW : isW h w c C nm g) (hq0 : q0 < 90) 
    (K : ∀ h1, isW h1 w c C nm (updO g (2 * q0) r) → Same (wBlk w) h h1 → RUN G l d M (pc + 3) ls st h1 Q) : RUN G l d M pc ls (va_rf r :: .ref (wT w q0) :: st) h Q :=
  r_putf hdg hf (hW.gT hq0) (hW.loT q0) (narrow_rf _ _) (fits_rf _ _) (Nat.le_of_ble_eq_true rfl) (K _ (hW.putT1 hq0 r) (Same.refl.put (by unfold wBlk wT; omega)))
theorem rc_putT2 {index : Nat} {r : Option Nat} {q0 : Nat} (hdg : decode M.2.1 pc = .ok (.putfield index, 3)) (hf : mFld M.1.cls index 8 2 (.object "ScopeWarden$Step") false) (hW : isW h w c C nm g) (hq0 : q0 < 90) 
    (K : ∀ h1, isW h1 w c C nm (updO g (2 * q0 + 1) r) → Same (wBlk w) h h1 → RUN G l d M (pc + 3) ls st h1 Q) : RUN G l d M pc ls (va_rf r :: .ref (wT w q0) :: st) h Q :=
  r_putf hdg hf (hW.gT hq0) (hW.loT q0) (narrow_rf _ _) (fits_rf _ _) (Nat.le_of_ble_eq_true rfl) (K _ (hW.putT2 hq0 r) (Same.refl.put (by unfold wBlk wT; omega)))
theorem rc_putT3 {index : Nat} {v : Int} {q0 : Nat} (hdg : decode M.2.1 pc = .ok (.putfield index, 3)) (hf : mFld M.1.cls index 8 3 .int false) (hW : isW h w c C nm g) (hq0 : q0 < 90) 
    (K : ∀ h1, isW h1 w (updI c (32 + 3 * q0) v) C nm g → Same (wBlk w) h h1 → RUN G l d M (pc + 3) ls st h1 Q) : RUN G l d M pc ls (.int (J v) :: .ref (wT w q0) :: st) h Q :=
  r_putf hdg hf (hW.gT hq0) (hW.loT q0) rfl rfl (Nat.le_of_ble_eq_true rfl) (K _ (hW.putT3 hq0 v) (Same.refl.put (by unfold wBlk wT; omega)))
theorem rc_putT4 {index : Nat} {v : Int} {q0 : Nat} (hdg : decode M.2.1 pc = .ok (.putfield index, 3)) (hf : mFld M.1.cls index 8 4 .int false) (hW : isW h w c C nm g) (hq0 : q0 < 90) 
    (K : ∀ h1, isW h1 w (updI c (33 + 3 * q0) v) C nm g → Same (wBlk w) h h1 → RUN G l d M (pc + 3) ls st h1 Q) : RUN G l d M pc ls (.int (J v) :: .ref (wT w q0) :: st) h Q :=
  r_putf hdg hf (hW.gT hq0) (hW.loT q0) rfl rfl (Nat.le_of_ble_eq_true rfl) (K _ (hW.putT4 hq0 v) (Same.refl.put (by unfold wBlk wT; omega)))
theorem rc_putT5 {index : Nat} {v : Int} {q0 : Nat} (hdg : decode M.2.1 pc = .ok (.putfield index, 3)) (hf : mFld M.1.cls index 8 5 .int false) (hW : isW h w c C nm g) (hq0 : q0 < 90) 
    (K : ∀ h1, isW h1 w (updI c (34 + 3 * q0) v) C nm g → Same (wBlk w) h h1 → RUN G l d M (pc + 3) ls st h1 Q) : RUN G l d M pc ls (.int (J v) :: .ref (wT w q0) :: st) h Q :=
  r_putf hdg hf (hW.gT hq0) (hW.loT q0) rfl rfl (Nat.le_of_ble_eq_true rfl) (K _ (hW.putT5 hq0 v) (Same.refl.put (by unfold wBlk wT; omega)))
theorem rc_putS0 {index : Nat} {v : Int} {q0 : Nat} (hdg : decode M.2.1 pc = .ok (.putfield index, 3)) (hf : mFld M.1.cls index 4 0 .int false) (hW : isW h w c C nm g) (hq0 : q0 < 60) 
    (K : ∀ h1, isW h1 w (updI c (304 + 3 * q0) v) C nm g → Same (wBlk w) h h1 → RUN G l d M (pc + 3) ls st h1 Q) : RUN G l d M pc ls (.int (J v) :: .ref (wS w q0) :: st) h Q :=
  r_putf hdg hf (hW.gS hq0) (hW.loS q0) rfl rfl (Nat.le_of_ble_eq_true rfl) (K _ (hW.putS0 hq0 v) (Same.refl.put (by unfold wBlk wS; omega)))
theorem rc_putS1 {index : Nat} {v : Int} {q0 : Nat} (hdg : decode M.2.1 pc = .ok (.putfield index, 3)) (hf : mFld M.1.cls index 4 1 .int false) (hW : isW h w c C nm g) (hq0 : q0 < 60) 
    (K : ∀ h1, isW h1 w (updI c (305 + 3 * q0) v) C nm g → Same (wBlk w) h h1 → RUN G l d M (pc + 3) ls st h1 Q) : RUN G l d M pc ls (.int (J v) :: .ref (wS w q0) :: st) h Q :=
  r_putf hdg hf (hW.gS hq0) (hW.loS q0) rfl rfl (Nat.le_of_ble_eq_true rfl) (K _ (hW.putS1 hq0 v) (Same.refl.put (by unfold wBlk wS; omega)))
theorem rc_putS2 {index : Nat} {v : Int} {q0 : Nat} (hdg : decode M.2.1 pc = .ok (.putfield index, 3)) (hf : mFld M.1.cls index 4 2 .int false) (hW : isW h w c C nm g) (hq0 : q0 < 60) 
    (K : ∀ h1, isW h1 w (updI c (306 + 3 * q0) v) C nm g → Same (wBlk w) h h1 → RUN G l d M (pc + 3) ls st h1 Q) : RUN G l d M pc ls (.int (J v) :: .ref (wS w q0) :: st) h Q :=
  r_putf hdg hf (hW.gS hq0) (hW.loS q0) rfl rfl (Nat.le_of_ble_eq_true rfl) (K _ (hW.putS2 hq0 v) (Same.refl.put (by unfold wBlk wS; omega)))
theorem rc_putK0 {index : Nat} {r : Option Nat} {q0 : Nat} (hdg : decode M.2.1 pc = .ok (.putfield index, 3)) (hf : mFld M.1.cls index 7 0 (.object "ScopeWarden$Step") false) (hW : isW h w c C nm g) (hq0 : q0 < 10) 
    (K : ∀ h1, isW h1 w c C nm (updO g (180 + 2 * q0) r) → Same (wBlk w) h h1 → RUN G l d M (pc + 3) ls st h1 Q) : RUN G l d M pc ls (va_rf r :: .ref (wK w q0) :: st) h Q :=
  r_putf hdg hf (hW.gK hq0) (hW.loK q0) (narrow_rf _ _) (fits_rf _ _) (Nat.le_of_ble_eq_true rfl) (K _ (hW.putK0 hq0 r) (Same.refl.put (by unfold wBlk wK; omega)))
theorem rc_putK1 {index : Nat} {r : Option Nat} {q0 : Nat} (hdg : decode M.2.1 pc = .ok (.putfield index, 3)) (hf : mFld M.1.cls index 7 1 (.object "ScopeWarden$Step") false) (hW : isW h w c C nm g) (hq0 : q0 < 10) 
    (K : ∀ h1, isW h1 w c C nm (updO g (181 + 2 * q0) r) → Same (wBlk w) h h1 → RUN G l d M (pc + 3) ls st h1 Q) : RUN G l d M pc ls (va_rf r :: .ref (wK w q0) :: st) h Q :=
  r_putf hdg hf (hW.gK hq0) (hW.loK q0) (narrow_rf _ _) (fits_rf _ _) (Nat.le_of_ble_eq_true rfl) (K _ (hW.putK1 hq0 r) (Same.refl.put (by unfold wBlk wK; omega)))
theorem rc_putK2 {index : Nat} {v : Int} {q0 : Nat} (hdg : decode M.2.1 pc = .ok (.putfield index, 3)) (hf : mFld M.1.cls index 7 2 .int false) (hW : isW h w c C nm g) (hq0 : q0 < 10) 
    (K : ∀ h1, isW h1 w (updI c (488 + 9 * q0) v) C nm g → Same (wBlk w) h h1 → RUN G l d M (pc + 3) ls st h1 Q) : RUN G l d M pc ls (.int (J v) :: .ref (wK w q0) :: st) h Q :=
  r_putf hdg hf (hW.gK hq0) (hW.loK q0) rfl rfl (Nat.le_of_ble_eq_true rfl) (K _ (hW.putK2 hq0 v) (Same.refl.put (by unfold wBlk wK; omega)))
theorem rc_putK3 {index : Nat} {v : Int} {q0 : Nat} (hdg : decode M.2.1 pc = .ok (.putfield index, 3)) (hf : mFld M.1.cls index 7 3 .int false) (hW : isW h w c C nm g) (hq0 : q0 < 10) 
    (K : ∀ h1, isW h1 w (updI c (489 + 9 * q0) v) C nm g → Same (wBlk w) h h1 → RUN G l d M (pc + 3) ls st h1 Q) : RUN G l d M pc ls (.int (J v) :: .ref (wK w q0) :: st) h Q :=
  r_putf hdg hf (hW.gK hq0) (hW.loK q0) rfl rfl (Nat.le_of_ble_eq_true rfl) (K _ (hW.putK3 hq0 v) (Same.refl.put (by unfold wBlk wK; omega)))
theorem rc_putK4 {index : Nat} {v : Int} {q0 : Nat} (hdg : decode M.2.1 pc = .ok (.putfield index, 3)) (hf : mFld M.1.cls index 7 4 .int false) (hW : isW h w c C nm g) (hq0 : q0 < 10) 
    (K : ∀ h1, isW h1 w (updI c (490 + 9 * q0) v) C nm g → Same (wBlk w) h h1 → RUN G l d M (pc + 3) ls st h1 Q) : RUN G l d M pc ls (.int (J v) :: .ref (wK w q0) :: st) h Q :=
  r_putf hdg hf (hW.gK hq0) (hW.loK q0) rfl rfl (Nat.le_of_ble_eq_true rfl) (K _ (hW.putK4 hq0 v) (Same.refl.put (by unfold wBlk wK; omega)))
theorem rc_putK5 {index : Nat} {v : Int} {q0 : Nat} (hdg : decode M.2.1 pc = .ok (.putfield index, 3)) (hf : mFld M.1.cls index 7 5 .int false) (hW : isW h w c C nm g) (hq0 : q0 < 10) 
    (K : ∀ h1, isW h1 w (updI c (491 + 9 * q0) v) C nm g → Same (wBlk w) h h1 → RUN G l d M (pc + 3) ls st h1 Q) : RUN G l d M pc ls (.int (J v) :: .ref (wK w q0) :: st) h Q :=
  r_putf hdg hf (hW.gK hq0) (hW.loK q0) rfl rfl (Nat.le_of_ble_eq_true rfl) (K _ (hW.putK5 hq0 v) (Same.refl.put (by unfold wBlk wK; omega)))
theorem rc_putK6 {index : Nat} {v : Int} {q0 : Nat} (hdg : decode M.2.1 pc = .ok (.putfield index, 3)) (hf : mFld M.1.cls index 7 6 .int false) (hW : isW h w c C nm g) (hq0 : q0 < 10) 
    (K : ∀ h1, isW h1 w (updI c (492 + 9 * q0) v) C nm g → Same (wBlk w) h h1 → RUN G l d M (pc + 3) ls st h1 Q) : RUN G l d M pc ls (.int (J v) :: .ref (wK w q0) :: st) h Q :=
  r_putf hdg hf (hW.gK hq0) (hW.loK q0) rfl rfl (Nat.le_of_ble_eq_true rfl) (K _ (hW.putK6 hq0 v) (Same.refl.put (by unfold wBlk wK; omega)))
theorem rc_putK7 {index : Nat} {v : Int} {q0 : Nat} (hdg : decode M.2.1 pc = .ok (.putfield index, 3)) (hf : mFld M.1.cls index 7 7 .int false) (hW : isW h w c C nm g) (hq0 : q0 < 10) 
    (K : ∀ h1, isW h1 w (updI c (493 + 9 * q0) v) C nm g → Same (wBlk w) h h1 → RUN G l d M (pc + 3) ls st h1 Q) : RUN G l d M pc ls (.int (J v) :: .ref (wK w q0) :: st) h Q :=
  r_putf hdg hf (hW.gK hq0) (hW.loK q0) rfl rfl (Nat.le_of_ble_eq_true rfl) (K _ (hW.putK7 hq0 v) (Same.refl.put (by unfold wBlk wK; omega)))
theorem rc_putK8 {index : Nat} {v : Int} {q0 : Nat} (hdg : decode M.2.1 pc = .ok (.putfield index, 3)) (hf : mFld M.1.cls index 7 8 .int false) (hW : isW h w c C nm g) (hq0 : q0 < 10) 
    (K : ∀ h1, isW h1 w (updI c (494 + 9 * q0) v) C nm g → Same (wBlk w) h h1 → RUN G l d M (pc + 3) ls st h1 Q) : RUN G l d M pc ls (.int (J v) :: .ref (wK w q0) :: st) h Q :=
  r_putf hdg hf (hW.gK hq0) (hW.loK q0) rfl rfl (Nat.le_of_ble_eq_true rfl) (K _ (hW.putK8 hq0 v) (Same.refl.put (by unfold wBlk wK; omega)))
theorem rc_putK9 {index : Nat} {v : Int} {q0 : Nat} (hdg : decode M.2.1 pc = .ok (.putfield index, 3)) (hf : mFld M.1.cls index 7 9 .int false) (hW : isW h w c C nm g) (hq0 : q0 < 10) 
    (K : ∀ h1, isW h1 w (updI c (495 + 9 * q0) v) C nm g → Same (wBlk w) h h1 → RUN G l d M (pc + 3) ls st h1 Q) : RUN G l d M pc ls (.int (J v) :: .ref (wK w q0) :: st) h Q :=
  r_putf hdg hf (hW.gK hq0) (hW.loK q0) rfl rfl (Nat.le_of_ble_eq_true rfl) (K _ (hW.putK9 hq0 v) (Same.refl.put (by unfold wBlk wK; omega)))
theorem rc_putK10 {index : Nat} {v : Int} {q0 : Nat} (hdg : decode M.2.1 pc = .ok (.putfield index, 3)) (hf : mFld M.1.cls index 7 10 .boolean false) (hW : isW h w c C nm g) (hq0 : q0 < 10) (hz : narrow .boolean (.int (J v)) = .int (J v)) (hft : fits .boolean (.int (J v)) = true) 
    (K : ∀ h1, isW h1 w (updI c (496 + 9 * q0) v) C nm g → Same (wBlk w) h h1 → RUN G l d M (pc + 3) ls st h1 Q) : RUN G l d M pc ls (.int (J v) :: .ref (wK w q0) :: st) h Q :=
  r_putf hdg hf (hW.gK hq0) (hW.loK q0) hz hft (Nat.le_of_ble_eq_true rfl) (K _ (hW.putK10 hq0 v) (Same.refl.put (by unfold wBlk wK; omega)))
theorem rc_aaldT {i : Int} (hdg : decode M.2.1 pc = .ok (.aaload, 1)) (hW : isW h w c C nm g) (hr : InR i) (h0 : 0 ≤ i) (h1 : i < 90) (K : RUN G l d M (pc + 1) ls (.ref (wT w i.toNat) :: st) h Q) : RUN G l d M pc ls (.int (J i) :: .ref (wA w 1) :: st) h Q :=
  rj_aald hdg hW.g1 hr h0 h1 (by rw [show rowT w i.toNat = some (wT w i.toNat) by unfold rowT; rw [if_pos (by omega)]]; exact K)
theorem rc_aaldS {i : Int} (hdg : decode M.2.1 pc = .ok (.aaload, 1)) (hW : isW h w c C nm g) (hr : InR i) (h0 : 0 ≤ i) (h1 : i < 60) (K : RUN G l d M (pc + 1) ls (.ref (wS w i.toNat) :: st) h Q) : RUN G l d M pc ls (.int (J i) :: .ref (wA w 2) :: st) h Q :=
  rj_aald hdg hW.g2 hr h0 h1 (by rw [show rowS w i.toNat = some (wS w i.toNat) by unfold rowS; rw [if_pos (by omega)]]; exact K)
theorem rc_aaldK {i : Int} (hdg : decode M.2.1 pc = .ok (.aaload, 1)) (hW : isW h w c C nm g) (hr : InR i) (h0 : 0 ≤ i) (h1 : i < 10) (K : RUN G l d M (pc + 1) ls (.ref (wK w i.toNat) :: st) h Q) : RUN G l d M pc ls (.int (J i) :: .ref (wA w 3) :: st) h Q :=
  rj_aald hdg hW.g3 hr h0 h1 (by rw [show rowK w i.toNat = some (wK w i.toNat) by unfold rowK; rw [if_pos (by omega)]]; exact K)
end RW
def rA (r k : Nat) : Nat := r + k
def isR (h : mH) (r : Nat) (b z : Int) (f : Nat → Int) (c : Nat → Int) (C : Nat → Nat → Int) (nm : Nat → Int64) (g : Nat → Option Nat) : Prop := h.1 ≤ r ∧ hGet h r = some (.inl (3, [.ref (rA r 1), .ref (rA r 178), .int (J b)])) ∧ isW h (rA r 1) c C nm g ∧ isI h (rA r 178) 160 z f
def isRd (h : mH) (a : Nat) (p e o z : Int) (f : Nat → Int) : Prop := h.1 ≤ a ∧ hGet h a = some (.inl (2, [.ref (rA a 1), .int (J p), .int (J e), .int (J o)])) ∧ isI h (rA a 1) 120 z f
def isSp (h : mH) (a : Nat) (z : Int) (f : Nat → Int) : Prop := h.1 ≤ a ∧ hGet h a = some (.inl (5, [.ref (rA a 1)])) ∧ isI h (rA a 1) 120 z f
section IR
variable {h : mH} {r a : Nat} {b z p e o : Int} {f : Nat → Int} {c : Nat → Int} {C : Nat → Nat → Int} {nm : Nat → Int64} {g : Nat → Option Nat}
theorem isR.lo (k : isR h r b z f c C nm g) : h.1 ≤ r := k.1
theorem isR.gx (k : isR h r b z f c C nm g) : hGet h r = some (.inl (3, [.ref (rA r 1), .ref (rA r 178), .int (J b)])) := k.2.1
theorem isR.w (k : isR h r b z f c C nm g) : isW h (rA r 1) c C nm g := k.2.2.1
theorem isR.i (k : isR h r b z f c C nm g) : isI h (rA r 178) 160 z f := k.2.2.2
theorem isRd.lo (k : isRd h a p e o z f) : h.1 ≤ a := k.1
theorem isRd.gx (k : isRd h a p e o z f) : hGet h a = some (.inl (2, [.ref (rA a 1), .int (J p), .int (J e), .int (J o)])) := k.2.1
theorem isRd.i (k : isRd h a p e o z f) : isI h (rA a 1) 120 z f := k.2.2
theorem isSp.lo (k : isSp h a z f) : h.1 ≤ a := k.1
theorem isSp.gx (k : isSp h a z f) : hGet h a = some (.inl (5, [.ref (rA a 1)])) := k.2.1
theorem isSp.i (k : isSp h a z f) : isI h (rA a 1) 120 z f := k.2.2
def rBlk (r : Nat) : Nat → Prop := fun q => r ≤ q ∧ q < r + 180
def dBlk (a : Nat) : Nat → Prop := fun q => a ≤ q ∧ q < a + 3
theorem isR.ofW {h' : mH} {c' : Nat → Int} {C' : Nat → Nat → Int} {nm' : Nat → Int64} {g' : Nat → Option Nat} (k : isR h r b z f c C nm g) (S : Same (wBlk (rA r 1)) h h') (k2 : isW h' (rA r 1) c' C' nm' g') : isR h' r b z f c' C' nm' g' :=
  ⟨by rw [S.1]; exact k.lo, (S.2.2.2 r (fun q => by unfold wBlk rA at q; omega)).trans k.gx, k2, k.i.kept S (fun q => by unfold wBlk rA at q; omega) (fun q => by unfold wBlk rA at q; omega)⟩
theorem isR.ofI {h' : mH} {z' : Int} {f' : Nat → Int} (k : isR h r b z f c C nm g) (S : Same (iBlk (rA r 178)) h h') (k2 : isI h' (rA r 178) 160 z' f') : isR h' r b z' f' c C nm g :=
  ⟨by rw [S.1]; exact k.lo, (S.2.2.2 r (fun q => by unfold iBlk rA at q; omega)).trans k.gx, k.w.kept S (fun q hq hq2 => by unfold wBlk rA at hq; unfold iBlk rA at hq2; omega), k2⟩
theorem isRd.ofI {h' : mH} {z' : Int} {f' : Nat → Int} (k : isRd h a p e o z f) (S : Same (iBlk (rA a 1)) h h') (k2 : isI h' (rA a 1) 120 z' f') : isRd h' a p e o z' f' :=
  ⟨by rw [S.1]; exact k.lo, (S.2.2.2 a (fun q => by unfold iBlk rA at q; omega)).trans k.gx, k2⟩
theorem isSp.ofI {h' : mH} {z' : Int} {f' : Nat → Int} (k : isSp h a z f) (S : Same (iBlk (rA a 1)) h h') (k2 : isI h' (rA a 1) 120 z' f') : isSp h' a z' f' :=
  ⟨by rw [S.1]; exact k.lo, (S.2.2.2 a (fun q => by unfold iBlk rA at q; omega)).trans k.gx, k2⟩
theorem w_rBlk {q : Nat} (k : wBlk (rA r 1) q) : rBlk r q := by unfold wBlk rA at k; unfold rBlk; omega
theorem i_rBlk {q : Nat} (k : iBlk (rA r 178) q) : rBlk r q := by unfold iBlk rA at k; unfold rBlk; omega
theorem i_dBlk {q : Nat} (k : iBlk (rA a 1) q) : dBlk a q := by unfold iBlk rA at k; unfold dBlk; omega
theorem isR.keep2 {h' : mH} (k : isR h r b z f c C nm g) (e : h'.1 = h.1) (S : ∀ q, rBlk r q → hGet h' q = hGet h q) : isR h' r b z f c C nm g :=
  ⟨by rw [e]; exact k.lo, (S _ (by unfold rBlk; omega)).trans k.gx, k.w.keep2 e (fun q hq => S q (w_rBlk hq)), k.i.keep2 e (fun q hq => S q (i_rBlk hq))⟩
theorem isRd.keep2 {h' : mH} {p e o : Int} (k : isRd h a p e o z f) (e1 : h'.1 = h.1) (S : ∀ q, dBlk a q → hGet h' q = hGet h q) : isRd h' a p e o z f :=
  ⟨by rw [e1]; exact k.lo, (S _ (by unfold dBlk; omega)).trans k.gx, k.i.keep2 e1 (fun q hq => S q (i_dBlk hq))⟩
theorem isSp.keep2 {h' : mH} (k : isSp h a z f) (e : h'.1 = h.1) (S : ∀ q, dBlk a q → hGet h' q = hGet h q) : isSp h' a z f :=
  ⟨by rw [e]; exact k.lo, (S _ (by unfold dBlk; omega)).trans k.gx, k.i.keep2 e (fun q hq => S q (i_dBlk hq))⟩
end IR
section RR
variable {G : mG} {l : Launch} {d : Nat} {M : mM} {pc : Nat} {ls : List (Option Value)} {st : List Value} {h : mH} {Q : Option Value → mH → Prop} {r a : Nat} {b z p e o : Int} {f : Nat → Int} {c : Nat → Int} {C : Nat → Nat → Int} {nm : Nat → Int64} {g : Nat → Option Nat}
theorem rc_putR {index : Nat} {v : Int} (hdg : decode M.2.1 pc = .ok (.putfield index, 3)) (hf : mFld M.1.cls index 3 2 .int false) (hR : isR h r b z f c C nm g)
    (K : ∀ h1, isR h1 r v z f c C nm g → Same (rBlk r) h h1 → RUN G l d M (pc + 3) ls st h1 Q) : RUN G l d M pc ls (.int (J v) :: .ref r :: st) h Q := by
  have S : Same (fun q => q = r) h (hPut h r (.inl (3, [.ref (rA r 1), .ref (rA r 178), .int (J v)]))) := Same.refl.put rfl
  exact r_putf hdg hf hR.gx hR.lo rfl rfl (Nat.le_of_ble_eq_true rfl) (K _ ⟨hR.lo, hGet_put_self, hR.w.kept S (fun q hq e => by unfold wBlk rA at hq; omega), hR.i.kept S (by unfold rA; omega) (by unfold rA; omega)⟩ (S.mono (fun q hq => by unfold rBlk; omega)))
theorem rc_putD1 {index : Nat} {v : Int} (hdg : decode M.2.1 pc = .ok (.putfield index, 3)) (hf : mFld M.1.cls index 2 1 .int false) (hD : isRd h a p e o z f)
    (K : ∀ h1, isRd h1 a v e o z f → Same (dBlk a) h h1 → RUN G l d M (pc + 3) ls st h1 Q) : RUN G l d M pc ls (.int (J v) :: .ref a :: st) h Q := by
  have S : Same (fun q => q = a) h (hPut h a (.inl (2, [.ref (rA a 1), .int (J v), .int (J e), .int (J o)]))) := Same.refl.put rfl
  exact r_putf hdg hf hD.gx hD.lo rfl rfl (Nat.le_of_ble_eq_true rfl) (K _ ⟨hD.lo, hGet_put_self, hD.i.kept S (by unfold rA; omega) (by unfold rA; omega)⟩ (S.mono (fun q hq => by unfold dBlk; omega)))
theorem rc_putD2 {index : Nat} {v : Int} (hdg : decode M.2.1 pc = .ok (.putfield index, 3)) (hf : mFld M.1.cls index 2 2 .int false) (hD : isRd h a p e o z f)
    (K : ∀ h1, isRd h1 a p v o z f → Same (dBlk a) h h1 → RUN G l d M (pc + 3) ls st h1 Q) : RUN G l d M pc ls (.int (J v) :: .ref a :: st) h Q := by
  have S : Same (fun q => q = a) h (hPut h a (.inl (2, [.ref (rA a 1), .int (J p), .int (J v), .int (J o)]))) := Same.refl.put rfl
  exact r_putf hdg hf hD.gx hD.lo rfl rfl (Nat.le_of_ble_eq_true rfl) (K _ ⟨hD.lo, hGet_put_self, hD.i.kept S (by unfold rA; omega) (by unfold rA; omega)⟩ (S.mono (fun q hq => by unfold dBlk; omega)))
theorem rc_putD3 {index : Nat} {v : Int} (hdg : decode M.2.1 pc = .ok (.putfield index, 3)) (hf : mFld M.1.cls index 2 3 .int false) (hD : isRd h a p e o z f)
    (K : ∀ h1, isRd h1 a p e v z f → Same (dBlk a) h h1 → RUN G l d M (pc + 3) ls st h1 Q) : RUN G l d M pc ls (.int (J v) :: .ref a :: st) h Q := by
  have S : Same (fun q => q = a) h (hPut h a (.inl (2, [.ref (rA a 1), .int (J p), .int (J e), .int (J v)]))) := Same.refl.put rfl
  exact r_putf hdg hf hD.gx hD.lo rfl rfl (Nat.le_of_ble_eq_true rfl) (K _ ⟨hD.lo, hGet_put_self, hD.i.kept S (by unfold rA; omega) (by unfold rA; omega)⟩ (S.mono (fun q hq => by unfold dBlk; omega)))
end RR

section mg_50
section IW
variable {h h' : mH} {w : Nat} {c : Nat → Int} {C : Nat → Nat → Int} {nm : Nat → Int64} {g : Nat → Option Nat}
end IW
theorem fit_J0 : fits .boolean (.int (J 0)) = true := by rw [← J_0]; decide +kernel
theorem fit_J1 : fits .boolean (.int (J 1)) = true := by rw [← J_1]; decide +kernel
section RW
variable {G : mG} {l : Launch} {d : Nat} {M : mM} {pc : Nat} {ls : List (Option Value)} {st : List Value} {h : mH} {Q : Option Value → mH → Prop} {w : Nat} {c : Nat → Int} {C : Nat → Nat → Int} {nm : Nat → Int64} {g : Nat → Option Nat}
theorem rc_putw0 {index : Nat} {v : Int} (hdg : decode M.2.1 pc = .ok (.putfield index, 3)) (hf : mFld M.1.cls index 9 3 .int false) (hW : isW h w c C nm g)  
    (K : ∀ h1, isW h1 w (updI c 0 v) C nm g → Same (wBlk w) h h1 → RUN G l d M (pc + 3) ls st h1 Q) : RUN G l d M pc ls (.int (J v) :: .ref w :: st) h Q :=
  r_putf hdg hf hW.gx hW.lo rfl rfl (Nat.le_of_ble_eq_true rfl) (K _ (hW.putw0 v) (Same.refl.put (by unfold wBlk; omega)))
theorem rc_putw1 {index : Nat} {v : Int} (hdg : decode M.2.1 pc = .ok (.putfield index, 3)) (hf : mFld M.1.cls index 9 4 .int false) (hW : isW h w c C nm g)  
    (K : ∀ h1, isW h1 w (updI c 1 v) C nm g → Same (wBlk w) h h1 → RUN G l d M (pc + 3) ls st h1 Q) : RUN G l d M pc ls (.int (J v) :: .ref w :: st) h Q :=
  r_putf hdg hf hW.gx hW.lo rfl rfl (Nat.le_of_ble_eq_true rfl) (K _ (hW.putw1 v) (Same.refl.put (by unfold wBlk; omega)))
theorem rc_putw2 {index : Nat} {v : Int} (hdg : decode M.2.1 pc = .ok (.putfield index, 3)) (hf : mFld M.1.cls index 9 5 .int false) (hW : isW h w c C nm g)  
    (K : ∀ h1, isW h1 w (updI c 2 v) C nm g → Same (wBlk w) h h1 → RUN G l d M (pc + 3) ls st h1 Q) : RUN G l d M pc ls (.int (J v) :: .ref w :: st) h Q :=
  r_putf hdg hf hW.gx hW.lo rfl rfl (Nat.le_of_ble_eq_true rfl) (K _ (hW.putw2 v) (Same.refl.put (by unfold wBlk; omega)))
theorem rc_putw3 {index : Nat} {v : Int} (hdg : decode M.2.1 pc = .ok (.putfield index, 3)) (hf : mFld M.1.cls index 9 6 .int false) (hW : isW h w c C nm g)  
    (K : ∀ h1, isW h1 w (updI c 3 v) C nm g → Same (wBlk w) h h1 → RUN G l d M (pc + 3) ls st h1 Q) : RUN G l d M pc ls (.int (J v) :: .ref w :: st) h Q :=
  r_putf hdg hf hW.gx hW.lo rfl rfl (Nat.le_of_ble_eq_true rfl) (K _ (hW.putw3 v) (Same.refl.put (by unfold wBlk; omega)))
theorem rc_putF {index : Nat} {v : Int} (hdg : decode M.2.1 pc = .ok (.putfield index, 3)) (hf : mFld M.1.cls index 0 3 .int false) (hW : isW h w c C nm g)  
    (K : ∀ h1, isW h1 w (updI c 4 v) C nm g → Same (wBlk w) h h1 → RUN G l d M (pc + 3) ls st h1 Q) : RUN G l d M pc ls (.int (J v) :: .ref (wA w 10) :: st) h Q :=
  r_putf hdg hf hW.gF (hW.loA 10) rfl rfl (Nat.le_of_ble_eq_true rfl) (K _ (hW.putF v) (Same.refl.put (by unfold wBlk wA; omega)))
theorem rc_putT0 {index : Nat} {r : Int64} {q0 : Nat} (hdg : decode M.2.1 pc = .ok (.putfield index, 3)) (hf : mFld M.1.cls index 8 0 .long false) (hW : isW h w c C nm g) (hq0 : q0 < 90) 
    (K : ∀ h1, isW h1 w c C (updL nm q0 r) g → Same (wBlk w) h h1 → RUN G l d M (pc + 3) ls st h1 Q) : RUN G l d M pc ls (.long r :: .ref (wT w q0) :: st) h Q :=
  r_putf hdg hf (hW.gT hq0) (hW.loT q0) rfl rfl (Nat.le_of_ble_eq_true rfl) (K _ (hW.putT0 hq0 r) (Same.refl.put (by unfold wBlk wT; omega)))
theorem rc_putT1 {index : Nat} {r : Option Nat} {q0 : Nat} (hdg : decode M.2.1 pc = .ok (.putfield index, 3)) (hf : mFld M.1.cls index 8 1 (.object "ScopeWarden$Step") false) (hW : isW h w c C nm g) (hq0 : q0 < 90) 
    (K : ∀ h1, isW h1 w c C nm (updO g (2 * q0) r) → Same (wBlk w) h h1 → RUN G l d M (pc + 3) ls st h1 Q) : RUN G l d M pc ls (va_rf r :: .ref (wT w q0) :: st) h Q :=
  r_putf hdg hf (hW.gT hq0) (hW.loT q0) (narrow_rf _ _) (fits_rf _ _) (Nat.le_of_ble_eq_true rfl) (K _ (hW.putT1 hq0 r) (Same.refl.put (by unfold wBlk wT; omega)))
theorem rc_putT2 {index : Nat} {r : Option Nat} {q0 : Nat} (hdg : decode M.2.1 pc = .ok (.putfield index, 3)) (hf : mFld M.1.cls index 8 2 (.object "ScopeWarden$Step") false) (hW : isW h w c C nm g) (hq0 : q0 < 90) 
    (K : ∀ h1, isW h1 w c C nm (updO g (2 * q0 + 1) r) → Same (wBlk w) h h1 → RUN G l d M (pc + 3) ls st h1 Q) : RUN G l d M pc ls (va_rf r :: .ref (wT w q0) :: st) h Q :=
  r_putf hdg hf (hW.gT hq0) (hW.loT q0) (narrow_rf _ _) (fits_rf _ _) (Nat.le_of_ble_eq_true rfl) (K _ (hW.putT2 hq0 r) (Same.refl.put (by unfold wBlk wT; omega)))
theorem rc_putT3 {index : Nat} {v : Int} {q0 : Nat} (hdg : decode M.2.1 pc = .ok (.putfield index, 3)) (hf : mFld M.1.cls index 8 3 .int false) (hW : isW h w c C nm g) (hq0 : q0 < 90) 
    (K : ∀ h1, isW h1 w (updI c (32 + 3 * q0) v) C nm g → Same (wBlk w) h h1 → RUN G l d M (pc + 3) ls st h1 Q) : RUN G l d M pc ls (.int (J v) :: .ref (wT w q0) :: st) h Q :=
  r_putf hdg hf (hW.gT hq0) (hW.loT q0) rfl rfl (Nat.le_of_ble_eq_true rfl) (K _ (hW.putT3 hq0 v) (Same.refl.put (by unfold wBlk wT; omega)))
theorem rc_putT4 {index : Nat} {v : Int} {q0 : Nat} (hdg : decode M.2.1 pc = .ok (.putfield index, 3)) (hf : mFld M.1.cls index 8 4 .int false) (hW : isW h w c C nm g) (hq0 : q0 < 90) 
    (K : ∀ h1, isW h1 w (updI c (33 + 3 * q0) v) C nm g → Same (wBlk w) h h1 → RUN G l d M (pc + 3) ls st h1 Q) : RUN G l d M pc ls (.int (J v) :: .ref (wT w q0) :: st) h Q :=
  r_putf hdg hf (hW.gT hq0) (hW.loT q0) rfl rfl (Nat.le_of_ble_eq_true rfl) (K _ (hW.putT4 hq0 v) (Same.refl.put (by unfold wBlk wT; omega)))
theorem rc_putT5 {index : Nat} {v : Int} {q0 : Nat} (hdg : decode M.2.1 pc = .ok (.putfield index, 3)) (hf : mFld M.1.cls index 8 5 .int false) (hW : isW h w c C nm g) (hq0 : q0 < 90) 
    (K : ∀ h1, isW h1 w (updI c (34 + 3 * q0) v) C nm g → Same (wBlk w) h h1 → RUN G l d M (pc + 3) ls st h1 Q) : RUN G l d M pc ls (.int (J v) :: .ref (wT w q0) :: st) h Q :=
  r_putf hdg hf (hW.gT hq0) (hW.loT q0) rfl rfl (Nat.le_of_ble_eq_true rfl) (K _ (hW.putT5 hq0 v) (Same.refl.put (by unfold wBlk wT; omega)))
theorem rc_putS0 {index : Nat} {v : Int} {q0 : Nat} (hdg : decode M.2.1 pc = .ok (.putfield index, 3)) (hf : mFld M.1.cls index 4 0 .int false) (hW : isW h w c C nm g) (hq0 : q0 < 60) 
    (K : ∀ h1, isW h1 w (updI c (304 + 3 * q0) v) C nm g → Same (wBlk w) h h1 → RUN G l d M (pc + 3) ls st h1 Q) : RUN G l d M pc ls (.int (J v) :: .ref (wS w q0) :: st) h Q :=
  r_putf hdg hf (hW.gS hq0) (hW.loS q0) rfl rfl (Nat.le_of_ble_eq_true rfl) (K _ (hW.putS0 hq0 v) (Same.refl.put (by unfold wBlk wS; omega)))
theorem rc_putS1 {index : Nat} {v : Int} {q0 : Nat} (hdg : decode M.2.1 pc = .ok (.putfield index, 3)) (hf : mFld M.1.cls index 4 1 .int false) (hW : isW h w c C nm g) (hq0 : q0 < 60) 
    (K : ∀ h1, isW h1 w (updI c (305 + 3 * q0) v) C nm g → Same (wBlk w) h h1 → RUN G l d M (pc + 3) ls st h1 Q) : RUN G l d M pc ls (.int (J v) :: .ref (wS w q0) :: st) h Q :=
  r_putf hdg hf (hW.gS hq0) (hW.loS q0) rfl rfl (Nat.le_of_ble_eq_true rfl) (K _ (hW.putS1 hq0 v) (Same.refl.put (by unfold wBlk wS; omega)))
theorem rc_putS2 {index : Nat} {v : Int} {q0 : Nat} (hdg : decode M.2.1 pc = .ok (.putfield index, 3)) (hf : mFld M.1.cls index 4 2 .int false) (hW : isW h w c C nm g) (hq0 : q0 < 60) 
    (K : ∀ h1, isW h1 w (updI c (306 + 3 * q0) v) C nm g → Same (wBlk w) h h1 → RUN G l d M (pc + 3) ls st h1 Q) : RUN G l d M pc ls (.int (J v) :: .ref (wS w q0) :: st) h Q :=
  r_putf hdg hf (hW.gS hq0) (hW.loS q0) rfl rfl (Nat.le_of_ble_eq_true rfl) (K _ (hW.putS2 hq0 v) (Same.refl.put (by unfold wBlk wS; omega)))
theorem rc_putK0 {index : Nat} {r : Option Nat} {q0 : Nat} (hdg : decode M.2.1 pc = .ok (.putfield index, 3)) (hf : mFld M.1.cls index 7 0 (.object "ScopeWarden$Step") false) (hW : isW h w c C nm g) (hq0 : q0 < 10) 
    (K : ∀ h1, isW h1 w c C nm (updO g (180 + 2 * q0) r) → Same (wBlk w) h h1 → RUN G l d M (pc + 3) ls st h1 Q) : RUN G l d M pc ls (va_rf r :: .ref (wK w q0) :: st) h Q :=
  r_putf hdg hf (hW.gK hq0) (hW.loK q0) (narrow_rf _ _) (fits_rf _ _) (Nat.le_of_ble_eq_true rfl) (K _ (hW.putK0 hq0 r) (Same.refl.put (by unfold wBlk wK; omega)))
theorem rc_putK1 {index : Nat} {r : Option Nat} {q0 : Nat} (hdg : decode M.2.1 pc = .ok (.putfield index, 3)) (hf : mFld M.1.cls index 7 1 (.object "ScopeWarden$Step") false) (hW : isW h w c C nm g) (hq0 : q0 < 10) 
    (K : ∀ h1, isW h1 w c C nm (updO g (181 + 2 * q0) r) → Same (wBlk w) h h1 → RUN G l d M (pc + 3) ls st h1 Q) : RUN G l d M pc ls (va_rf r :: .ref (wK w q0) :: st) h Q :=
  r_putf hdg hf (hW.gK hq0) (hW.loK q0) (narrow_rf _ _) (fits_rf _ _) (Nat.le_of_ble_eq_true rfl) (K _ (hW.putK1 hq0 r) (Same.refl.put (by unfold wBlk wK; omega)))
theorem rc_putK2 {index : Nat} {v : Int} {q0 : Nat} (hdg : decode M.2.1 pc = .ok (.putfield index, 3)) (hf : mFld M.1.cls index 7 2 .int false) (hW : isW h w c C nm g) (hq0 : q0 < 10) 
    (K : ∀ h1, isW h1 w (updI c (488 + 9 * q0) v) C nm g → Same (wBlk w) h h1 → RUN G l d M (pc + 3) ls st h1 Q) : RUN G l d M pc ls (.int (J v) :: .ref (wK w q0) :: st) h Q :=
  r_putf hdg hf (hW.gK hq0) (hW.loK q0) rfl rfl (Nat.le_of_ble_eq_true rfl) (K _ (hW.putK2 hq0 v) (Same.refl.put (by unfold wBlk wK; omega)))
theorem rc_putK3 {index : Nat} {v : Int} {q0 : Nat} (hdg : decode M.2.1 pc = .ok (.putfield index, 3)) (hf : mFld M.1.cls index 7 3 .int false) (hW : isW h w c C nm g) (hq0 : q0 < 10) 
    (K : ∀ h1, isW h1 w (updI c (489 + 9 * q0) v) C nm g → Same (wBlk w) h h1 → RUN G l d M (pc + 3) ls st h1 Q) : RUN G l d M pc ls (.int (J v) :: .ref (wK w q0) :: st) h Q :=
  r_putf hdg hf (hW.gK hq0) (hW.loK q0) rfl rfl (Nat.le_of_ble_eq_true rfl) (K _ (hW.putK3 hq0 v) (Same.refl.put (by unfold wBlk wK; omega)))
theorem rc_putK4 {index : Nat} {v : Int} {q0 : Nat} (hdg : decode M.2.1 pc = .ok (.putfield index, 3)) (hf : mFld M.1.cls index 7 4 .int false) (hW : isW h w c C nm g) (hq0 : q0 < 10) 
    (K : ∀ h1, isW h1 w (updI c (490 + 9 * q0) v) C nm g → Same (wBlk w) h h1 → RUN G l d M (pc + 3) ls st h1 Q) : RUN G l d M pc ls (.int (J v) :: .ref (wK w q0) :: st) h Q :=
  r_putf hdg hf (hW.gK hq0) (hW.loK q0) rfl rfl (Nat.le_of_ble_eq_true rfl) (K _ (hW.putK4 hq0 v) (Same.refl.put (by unfold wBlk wK; omega)))
theorem rc_putK5 {index : Nat} {v : Int} {q0 : Nat} (hdg : decode M.2.1 pc = .ok (.putfield index, 3)) (hf : mFld M.1.cls index 7 5 .int false) (hW : isW h w c C nm g) (hq0 : q0 < 10) 
    (K : ∀ h1, isW h1 w (updI c (491 + 9 * q0) v) C nm g → Same (wBlk w) h h1 → RUN G l d M (pc + 3) ls st h1 Q) : RUN G l d M pc ls (.int (J v) :: .ref (wK w q0) :: st) h Q :=
  r_putf hdg hf (hW.gK hq0) (hW.loK q0) rfl rfl (Nat.le_of_ble_eq_true rfl) (K _ (hW.putK5 hq0 v) (Same.refl.put (by unfold wBlk wK; omega)))
theorem rc_putK6 {index : Nat} {v : Int} {q0 : Nat} (hdg : decode M.2.1 pc = .ok (.putfield index, 3)) (hf : mFld M.1.cls index 7 6 .int false) (hW : isW h w c C nm g) (hq0 : q0 < 10) 
    (K : ∀ h1, isW h1 w (updI c (492 + 9 * q0) v) C nm g → Same (wBlk w) h h1 → RUN G l d M (pc + 3) ls st h1 Q) : RUN G l d M pc ls (.int (J v) :: .ref (wK w q0) :: st) h Q :=
  r_putf hdg hf (hW.gK hq0) (hW.loK q0) rfl rfl (Nat.le_of_ble_eq_true rfl) (K _ (hW.putK6 hq0 v) (Same.refl.put (by unfold wBlk wK; omega)))
theorem rc_putK7 {index : Nat} {v : Int} {q0 : Nat} (hdg : decode M.2.1 pc = .ok (.putfield index, 3)) (hf : mFld M.1.cls index 7 7 .int false) (hW : isW h w c C nm g) (hq0 : q0 < 10) 
    (K : ∀ h1, isW h1 w (updI c (493 + 9 * q0) v) C nm g → Same (wBlk w) h h1 → RUN G l d M (pc + 3) ls st h1 Q) : RUN G l d M pc ls (.int (J v) :: .ref (wK w q0) :: st) h Q :=
  r_putf hdg hf (hW.gK hq0) (hW.loK q0) rfl rfl (Nat.le_of_ble_eq_true rfl) (K _ (hW.putK7 hq0 v) (Same.refl.put (by unfold wBlk wK; omega)))
theorem rc_putK8 {index : Nat} {v : Int} {q0 : Nat} (hdg : decode M.2.1 pc = .ok (.putfield index, 3)) (hf : mFld M.1.cls index 7 8 .int false) (hW : isW h w c C nm g) (hq0 : q0 < 10) 
    (K : ∀ h1, isW h1 w (updI c (494 + 9 * q0) v) C nm g → Same (wBlk w) h h1 → RUN G l d M (pc + 3) ls st h1 Q) : RUN G l d M pc ls (.int (J v) :: .ref (wK w q0) :: st) h Q :=
  r_putf hdg hf (hW.gK hq0) (hW.loK q0) rfl rfl (Nat.le_of_ble_eq_true rfl) (K _ (hW.putK8 hq0 v) (Same.refl.put (by unfold wBlk wK; omega)))
theorem rc_putK9 {index : Nat} {v : Int} {q0 : Nat} (hdg : decode M.2.1 pc = .ok (.putfield index, 3)) (hf : mFld M.1.cls index 7 9 .int false) (hW : isW h w c C nm g) (hq0 : q0 < 10) 
    (K : ∀ h1, isW h1 w (updI c (495 + 9 * q0) v) C nm g → Same (wBlk w) h h1 → RUN G l d M (pc + 3) ls st h1 Q) : RUN G l d M pc ls (.int (J v) :: .ref (wK w q0) :: st) h Q :=
  r_putf hdg hf (hW.gK hq0) (hW.loK q0) rfl rfl (Nat.le_of_ble_eq_true rfl) (K _ (hW.putK9 hq0 v) (Same.refl.put (by unfold wBlk wK; omega)))
theorem rc_putK10 {index : Nat} {v : Int} {q0 : Nat} (hdg : decode M.2.1 pc = .ok (.putfield index, 3)) (hf : mFld M.1.cls index 7 10 .boolean false) (hW : isW h w c C nm g) (hq0 : q0 < 10) (hz : narrow .boolean (.int (J v)) = .int (J v)) (hft : fits .boolean (.int (J v)) = true) 
    (K : ∀ h1, isW h1 w (updI c (496 + 9 * q0) v) C nm g → Same (wBlk w) h h1 → RUN G l d M (pc + 3) ls st h1 Q) : RUN G l d M pc ls (.int (J v) :: .ref (wK w q0) :: st) h Q :=
  r_putf hdg hf (hW.gK hq0) (hW.loK q0) hz hft (Nat.le_of_ble_eq_true rfl) (K _ (hW.putK10 hq0 v) (Same.refl.put (by unfold wBlk wK; omega)))
theorem rc_aaldT {i : Int} (hdg : decode M.2.1 pc = .ok (.aaload, 1)) (hW : isW h w c C nm g) (hr : InR i) (h0 : 0 ≤ i) (h1 : i < 90) (K : RUN G l d M (pc + 1) ls (.ref (wT w i.toNat) :: st) h Q) : RUN G l d M pc ls (.int (J i) :: .ref (wA w 1) :: st) h Q :=
  rj_aald hdg hW.g1 hr h0 h1 (by rw [show rowT w i.toNat = some (wT w i.toNat) by unfold rowT; rw [if_pos (by omega)]]; exact K)
theorem rc_aaldS {i : Int} (hdg : decode M.2.1 pc = .ok (.aaload, 1)) (hW : isW h w c C nm g) (hr : InR i) (h0 : 0 ≤ i) (h1 : i < 60) (K : RUN G l d M (pc + 1) ls (.ref (wS w i.toNat) :: st) h Q) : RUN G l d M pc ls (.int (J i) :: .ref (wA w 2) :: st) h Q :=
  rj_aald hdg hW.g2 hr h0 h1 (by rw [show rowS w i.toNat = some (wS w i.toNat) by unfold rowS; rw [if_pos (by omega)]]; exact K)
theorem rc_aaldK {i : Int} (hdg : decode M.2.1 pc = .ok (.aaload, 1)) (hW : isW h w c C nm g) (hr : InR i) (h0 : 0 ≤ i) (h1 : i < 10) (K : RUN G l d M (pc + 1) ls (.ref (wK w i.toNat) :: st) h Q) : RUN G l d M pc ls (.int (J i) :: .ref (wA w 3) :: st) h Q :=
  rj_aald hdg hW.g3 hr h0 h1 (by rw [show rowK w i.toNat = some (wK w i.toNat) by unfold rowK; rw [if_pos (by omega)]]; exact K)
end RW
def rA (r k : Nat) : Nat := r + k
def isR (h : mH) (r : Nat) (b z : Int) (f : Nat → Int) (c : Nat → Int) (C : Nat → Nat → Int) (nm : Nat → Int64) (g : Nat → Option Nat) : Prop := h.1 ≤ r ∧ hGet h r = some (.inl (3, [.ref (rA r 1), .ref (rA r 178), .int (J b)])) ∧ isW h (rA r 1) c C nm g ∧ isI h (rA r 178) 160 z f
def isRd (h : mH) (a : Nat) (p e o z : Int) (f : Nat → Int) : Prop := h.1 ≤ a ∧ hGet h a = some (.inl (2, [.ref (rA a 1), .int (J p), .int (J e), .int (J o)])) ∧ isI h (rA a 1) 120 z f
def isSp (h : mH) (a : Nat) (z : Int) (f : Nat → Int) : Prop := h.1 ≤ a ∧ hGet h a = some (.inl (5, [.ref (rA a 1)])) ∧ isI h (rA a 1) 120 z f
section IR
variable {h : mH} {r a : Nat} {b z p e o : Int} {f : Nat → Int} {c : Nat → Int} {C : Nat → Nat → Int} {nm : Nat → Int64} {g : Nat → Option Nat}
theorem isR.lo (k : isR h r b z f c C nm g) : h.1 ≤ r := k.1
theorem isR.gx (k : isR h r b z f c C nm g) : hGet h r = some (.inl (3, [.ref (rA r 1), .ref (rA r 178), .int (J b)])) := k.2.1
theorem isR.w (k : isR h r b z f c C nm g) : isW h (rA r 1) c C nm g := k.2.2.1
theorem isR.i (k : isR h r b z f c C nm g) : isI h (rA r 178) 160 z f := k.2.2.2
theorem isRd.lo (k : isRd h a p e o z f) : h.1 ≤ a := k.1
theorem isRd.gx (k : isRd h a p e o z f) : hGet h a = some (.inl (2, [.ref (rA a 1), .int (J p), .int (J e), .int (J o)])) := k.2.1
theorem isRd.i (k : isRd h a p e o z f) : isI h (rA a 1) 120 z f := k.2.2
theorem isSp.lo (k : isSp h a z f) : h.1 ≤ a := k.1
theorem isSp.gx (k : isSp h a z f) : hGet h a = some (.inl (5, [.ref (rA a 1)])) := k.2.1
theorem isSp.i (k : isSp h a z f) : isI h (rA a 1) 120 z f := k.2.2
def rBlk (r : Nat) : Nat → Prop := fun q => r ≤ q ∧ q < r + 180
def dBlk (a : Nat) : Nat → Prop := fun q => a ≤ q ∧ q < a + 3
theorem isR.ofW {h' : mH} {c' : Nat → Int} {C' : Nat → Nat → Int} {nm' : Nat → Int64} {g' : Nat → Option Nat} (k : isR h r b z f c C nm g) (S : Same (wBlk (rA r 1)) h h') (k2 : isW h' (rA r 1) c' C' nm' g') : isR h' r b z f c' C' nm' g' :=
  ⟨by rw [S.1]; exact k.lo, (S.2.2.2 r (fun q => by unfold wBlk rA at q; omega)).trans k.gx, k2, k.i.kept S (fun q => by unfold wBlk rA at q; omega) (fun q => by unfold wBlk rA at q; omega)⟩
theorem isR.ofI {h' : mH} {z' : Int} {f' : Nat → Int} (k : isR h r b z f c C nm g) (S : Same (iBlk (rA r 178)) h h') (k2 : isI h' (rA r 178) 160 z' f') : isR h' r b z' f' c C nm g :=
  ⟨by rw [S.1]; exact k.lo, (S.2.2.2 r (fun q => by unfold iBlk rA at q; omega)).trans k.gx, k.w.kept S (fun q hq hq2 => by unfold wBlk rA at hq; unfold iBlk rA at hq2; omega), k2⟩
theorem isRd.ofI {h' : mH} {z' : Int} {f' : Nat → Int} (k : isRd h a p e o z f) (S : Same (iBlk (rA a 1)) h h') (k2 : isI h' (rA a 1) 120 z' f') : isRd h' a p e o z' f' :=
  ⟨by rw [S.1]; exact k.lo, (S.2.2.2 a (fun q => by unfold iBlk rA at q; omega)).trans k.gx, k2⟩
theorem isSp.ofI {h' : mH} {z' : Int} {f' : Nat → Int} (k : isSp h a z f) (S : Same (iBlk (rA a 1)) h h') (k2 : isI h' (rA a 1) 120 z' f') : isSp h' a z' f' :=
  ⟨by rw [S.1]; exact k.lo, (S.2.2.2 a (fun q => by unfold iBlk rA at q; omega)).trans k.gx, k2⟩
theorem w_rBlk {q : Nat} (k : wBlk (rA r 1) q) : rBlk r q := by unfold wBlk rA at k; unfold rBlk; omega
theorem i_rBlk {q : Nat} (k : iBlk (rA r 178) q) : rBlk r q := by unfold iBlk rA at k; unfold rBlk; omega
theorem i_dBlk {q : Nat} (k : iBlk (rA a 1) q) : dBlk a q := by unfold iBlk rA at k; unfold dBlk; omega
theorem isR.keep2 {h' : mH} (k : isR h r b z f c C nm g) (e : h'.1 = h.1) (S : ∀ q, rBlk r q → hGet h' q = hGet h q) : isR h' r b z f c C nm g :=
  ⟨by rw [e]; exact k.lo, (S _ (by unfold rBlk; omega)).trans k.gx, k.w.keep2 e (fun q hq => S q (w_rBlk hq)), k.i.keep2 e (fun q hq => S q (i_rBlk hq))⟩
theorem isRd.keep2 {h' : mH} {p e o : Int} (k : isRd h a p e o z f) (e1 : h'.1 = h.1) (S : ∀ q, dBlk a q → hGet h' q = hGet h q) : isRd h' a p e o z f :=
  ⟨by rw [e1]; exact k.lo, (S _ (by unfold dBlk; omega)).trans k.gx, k.i.keep2 e1 (fun q hq => S q (i_dBlk hq))⟩
theorem isSp.keep2 {h' : mH} (k : isSp h a z f) (e : h'.1 = h.1) (S : ∀ q, dBlk a q → hGet h' q = hGet h q) : isSp h' a z f :=
  ⟨by rw [e]; exact k.lo, (S _ (by unfold dBlk; omega)).trans k.gx, k.i.keep2 e (fun q hq => S q (i_dBlk hq))⟩
end IR
section RR
variable {G : mG} {l : Launch} {d : Nat} {M : mM} {pc : Nat} {ls : List (Option Value)} {st : List Value} {h : mH} {Q : Option Value → mH → Prop} {r a : Nat} {b z p e o : Int} {f : Nat → Int} {c : Nat → Int} {C : Nat → Nat → Int} {nm : Nat → Int64} {g : Nat → Option Nat}
theorem rc_putR {index : Nat} {v : Int} (hdg : decode M.2.1 pc = .ok (.putfield index, 3)) (hf : mFld M.1.cls index 3 2 .int false) (hR : isR h r b z f c C nm g)
    (K : ∀ h1, isR h1 r v z f c C nm g → Same (rBlk r) h h1 → RUN G l d M (pc + 3) ls st h1 Q) : RUN G l d M pc ls (.int (J v) :: .ref r :: st) h Q := by
  have S : Same (fun q => q = r) h (hPut h r (.inl (3, [.ref (rA r 1), .ref (rA r 178), .int (J v)]))) := Same.refl.put rfl
  exact r_putf hdg hf hR.gx hR.lo rfl rfl (Nat.le_of_ble_eq_true rfl) (K _ ⟨hR.lo, hGet_put_self, hR.w.kept S (fun q hq e => by unfold wBlk rA at hq; omega), hR.i.kept S (by unfold rA; omega) (by unfold rA; omega)⟩ (S.mono (fun q hq => by unfold rBlk; omega)))
theorem rc_putD1 {index : Nat} {v : Int} (hdg : decode M.2.1 pc = .ok (.putfield index, 3)) (hf : mFld M.1.cls index 2 1 .int false) (hD : isRd h a p e o z f)
    (K : ∀ h1, isRd h1 a v e o z f → Same (dBlk a) h h1 → RUN G l d M (pc + 3) ls st h1 Q) : RUN G l d M pc ls (.int (J v) :: .ref a :: st) h Q := by
  have S : Same (fun q => q = a) h (hPut h a (.inl (2, [.ref (rA a 1), .int (J v), .int (J e), .int (J o)]))) := Same.refl.put rfl
  exact r_putf hdg hf hD.gx hD.lo rfl rfl (Nat.le_of_ble_eq_true rfl) (K _ ⟨hD.lo, hGet_put_self, hD.i.kept S (by unfold rA; omega) (by unfold rA; omega)⟩ (S.mono (fun q hq => by unfold dBlk; omega)))
theorem rc_putD2 {index : Nat} {v : Int} (hdg : decode M.2.1 pc = .ok (.putfield index, 3)) (hf : mFld M.1.cls index 2 2 .int false) (hD : isRd h a p e o z f)
    (K : ∀ h1, isRd h1 a p v o z f → Same (dBlk a) h h1 → RUN G l d M (pc + 3) ls st h1 Q) : RUN G l d M pc ls (.int (J v) :: .ref a :: st) h Q := by
  have S : Same (fun q => q = a) h (hPut h a (.inl (2, [.ref (rA a 1), .int (J p), .int (J v), .int (J o)]))) := Same.refl.put rfl
  exact r_putf hdg hf hD.gx hD.lo rfl rfl (Nat.le_of_ble_eq_true rfl) (K _ ⟨hD.lo, hGet_put_self, hD.i.kept S (by unfold rA; omega) (by unfold rA; omega)⟩ (S.mono (fun q hq => by unfold dBlk; omega)))
theorem rc_putD3 {index : Nat} {v : Int} (hdg : decode M.2.1 pc = .ok (.putfield index, 3)) (hf : mFld M.1.cls index 2 3 .int false) (hD : isRd h a p e o z f)
    (K : ∀ h1, isRd h1 a p e v z f → Same (dBlk a) h h1 → RUN G l d M (pc + 3) ls st h1 Q) : RUN G l d M pc ls (.int (J v) :: .ref a :: st) h Q := by
  have S : Same (fun q => q = a) h (hPut h a (.inl (2, [.ref (rA a 1), .int (J p), .int (J e), .int (J v)]))) := Same.refl.put rfl
  exact r_putf hdg hf hD.gx hD.lo rfl rfl (Nat.le_of_ble_eq_true rfl) (K _ ⟨hD.lo, hGet_put_self, hD.i.kept S (by unfold rA; omega) (by unfold rA; omega)⟩ (S.mono (fun q hq => by unfold dBlk; omega)))
end RR
end mg_50
section mg_51
/-! ===== the class: rows of ints with a size ===== -/
abbrev inI (n : Nat) (z i : Int) : Prop := 0 ≤ i ∧ i < z ∧ i < n
def atF (n : Nat) (z : Int) (f : Nat → Int) (i : Int) : Int := if inI n z i then f i.toNat else 0
def putF (n : Nat) (z : Int) (f : Nat → Int) (i v : Int) : Nat → Int := if inI n z i then updI f i.toNat v else f
theorem atF_r {n : Nat} {z : Int} {f : Nat → Int} {i : Int} (hf : ∀ q, InR (f q)) : InR (atF n z f i) := by
  unfold atF; split
  · exact hf _
  · decide
end mg_51

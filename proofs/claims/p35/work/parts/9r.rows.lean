/-! ===== the class: rows of steps are read ===== -/
/-- what reading leaves: new steps behind the heap's end, the reader itself, nothing else -/
def FrR (a : Nat) (h h' : mH) : Prop := h'.1 = h.1 ∧ h.2.1 ≤ h'.2.1 ∧ h'.2.2.1 = h.2.2.1 + 6 * (h'.2.1 - h.2.1) ∧ ∀ b, b < h.2.1 → ¬ dBlk a b → hGet h' b = hGet h b
theorem FrR.rf {a : Nat} {h : mH} : FrR a h h := ⟨rfl, Nat.le_refl _, by omega, fun _ _ _ => rfl⟩
theorem FrR.tr {a : Nat} {h h1 h2 : mH} (k : FrR a h h1) (k2 : FrR a h1 h2) : FrR a h h2 := by
  obtain ⟨a1, a2, a3, a4⟩ := k
  obtain ⟨b1, b2, b3, b4⟩ := k2
  exact ⟨b1.trans a1, by omega, by omega, fun b hb hn => (b4 b (by omega) hn).trans (a4 b hb hn)⟩
theorem FrR.sm {a : Nat} {h h1 : mH} (k : Same (dBlk a) h h1) : FrR a h h1 := ⟨k.1, by rw [k.2.1]; exact Nat.le_refl _, by rw [k.2.2.1, k.2.1]; omega, fun b _ hn => k.2.2.2 b hn⟩
theorem FrR.st {a st : Nat} {h0 h h1 : mH} (F : FrR a h0 h) (hst : h0.2.1 ≤ st) (k : Same (fun b => dBlk a b ∨ b = st) h h1) : FrR a h0 h1 := by
  obtain ⟨a1, a2, a3, a4⟩ := F
  obtain ⟨b1, b2, b3, b4⟩ := k
  exact ⟨b1.trans a1, by omega, by omega, fun b hb hn => (b4 b (fun q => q.elim hn (by omega))).trans (a4 b hb hn)⟩
/-- the reading of a step failed: at the end, or ahead of a { that may not stand there -/
def rdF (z : Int) (f : Nat → Int) (a : Nat) (p : Nat) (R : Bool × PS) (h h' : mH) : Prop :=
  ∃ (P E o' : Int), isRd h' a P E o' z f ∧ rgS z (P, E) ∧ (-1 ≤ o' ∧ o' ≤ 200) ∧ (h'.2.1 : Int) + p ≤ h.2.1 + z ∧ 0 ≤ R.2.2.1 ∧ ((P = z ∧ E = R.2.2.1) ∨ (P = R.2.2.1 ∧ E = -1 ∧ hereC P z f = 123))
def rsPost (z : Int) (f : Nat → Int) (a : Nat) (it : Bool) (o p : Nat) (R : Bool × PS) (h : mH) (v : Option Value) (h' : mH) : Prop :=
  ∃ r : Option Nat, v = some (va_rf r) ∧ FrR a h h' ∧
  ((R.1 = true ∧ R.2.2.1 = -1 ∧ r = some h.2.1 ∧ ∃ p' o' : Nat, R.2.1 = p' ∧ R.2.2.2.2.2 = o' ∧ isRd h' a p' (-1) o' z f ∧ (p' : Int) ≤ z ∧ p < p' ∧ o' ≤ p' ∧ (it = false → o' = o) ∧ h'.2.1 + p ≤ h.2.1 + p' ∧ stK (hGet h') (clip f z) (clX (hGet h') (clip f z)) it o h.2.1 none h'.2.1 p p' o') ∨
   (R.1 = false ∧ rdF z f a p R h h'))
def rtPost (z : Int) (f : Nat → Int) (a : Nat) (it : Bool) (o0 p0 : Nat) (en : Int) (R : Bool × PS) (h : mH) (v : Option Value) (h' : mH) : Prop :=
  ∃ r : Option Nat, v = some (va_rf r) ∧ FrR a h h' ∧
  ((R.1 = true ∧ hereC R.2.1 z f = en ∧ ¬ (en = -1 ∧ 0 < R.2.2.2.2.2) ∧ R.2.2.1 = -1 ∧ r = some h.2.1 ∧ ∃ p' o' : Nat, R.2.1 = p' ∧ R.2.2.2.2.2 = o' ∧ isRd h' a p' (-1) o' z f ∧ (p' : Int) ≤ z ∧ p0 < p' ∧ o' ≤ p' ∧ (it = false → o' = o0) ∧ h.2.1 < h'.2.1 ∧ h'.2.1 + p0 ≤ h.2.1 + p' ∧ ∃ N, stL (hGet h') (clip f z) N it o0 h.2.1 h'.2.1 p0 p') ∨
   (¬ (R.1 = true ∧ hereC R.2.1 z f = en ∧ ¬ (en = -1 ∧ 0 < R.2.2.2.2.2)) ∧ (R.1 = true → R.2.2.1 = -1) ∧ ∃ (E o' : Int), E = (if R.1 = true then R.2.1 else R.2.2.1) ∧ (0 ≤ E ∧ E ≤ 120) ∧ (-1 ≤ o' ∧ o' ≤ 200) ∧ isRd h' a z E o' z f ∧ (h'.2.1 : Int) + p0 ≤ h.2.1 + z))
def etM (z : Int) (f : Nat → Int) (en o : Int) (s : Int × Int) : Int × Int := if hereC s.1 z f = en ∧ ¬ (en = -1 ∧ 0 < o) then s else (z, ftE s.2 s.1)
/-- how deep reading goes: the contract of a step's reading, at a level -/
noncomputable def RDN (G : mG) (l : Launch) (z : Int) (f : Nat → Int) (a : Nat) (n : Nat) : Prop := ∀ (w : Nat) (it bh : Bool) (gd : Int) (h : mH) (p o : Nat) (q : PS), ((bh = true → gd = 1) ∧ (bh = false → gd = 0)) → w ≤ 3 → (it = true ↔ w = 0 ∧ bh = false) → 2 * (3 - w) + (if bh = true then 1 else 2) ≤ n → q.1 = p → q.2.1 = -1 → q.2.2.2.2 = o → (p : Int) ≤ z → o ≤ p → isRd h a p (-1) o z f → a + 3 ≤ h.2.1 →
  RUNM G l (3 * n + 4) mX2_readStep [.ref a, .int (J (w : Int)), .int (J gd)] h (fun v h' => rsPost z f a it o p (stepN f z n w it bh q) h v h')
set_option maxHeartbeats 4000000 in
set_option maxRecDepth 100000 in
theorem rt_end {G : mG} {l : Launch} (d : Nat) {h : mH} {a : Nat} {s : Int × Int} {o z : Int} {f : Nat → Int} (hD : isRd h a s.1 s.2 o z f) (hs : rgS z s) (ho1 : -1 ≤ o ∧ o ≤ 200) (hz : 0 ≤ z ∧ z ≤ 120) (hf : bytesOk f) {br en : Int} (hen : en = 125 ∨ en = -1) {r0 : Option Nat} {v4 v5 : Option Value} : RUN G l (d + 1) mX2_readSteps 68 [some (.ref a), some (.int (J br)), some (.int (J en)), some (va_rf r0), v4, v5] [] h (fun v h' => v = some (va_rf r0) ∧ isRd h' a (etM z f en o s).1 (etM z f en o s).2 o z f ∧ Same (dBlk a) h h') := by
  obtain ⟨⟨h1, h2⟩, h3, h4⟩ := hs
  have hf' : ∀ q, InR (f q) := fun q => by have := hf q; exact ⟨by omega, by omega⟩
  have hp : InR s.1 := ⟨by omega, by omega⟩
  have he : InR s.2 := ⟨by omega, by omega⟩
  have hz' : InR z := ⟨by omega, by omega⟩
  have hh : -1 ≤ hereC s.1 z f := by
    unfold hereC; split
    · have := hf s.1.toNat; omega
    · omega
  have ho : InR o := ⟨by omega, by omega⟩
  refine r_aload_n (pc := 68) dX2_readSteps_68 rfl (by first | rfl | exact isRefV_rf _) ?_
  refine r_callV0 (pc := 69) dX2_readSteps_69 qX2_here kX2_34 vX2_here (by first | assumption | exact isI.gx (by assumption) | exact isI.gc (by assumption) | exact isW.gx (by assumption) | exact isW.gF (by assumption) | exact isW.gT (by assumption) (by omega) | exact isW.gS (by assumption) (by omega) | exact isW.gK (by assumption) (by omega) | exact isW.g1 (by assumption) | exact isW.g2 (by assumption) | exact isW.g3 (by assumption) | exact isI.gx (isW.i0 (by assumption)) | exact isI.gc (isW.i0 (by assumption)) | exact isI.gx (isW.i1 (by assumption)) | exact isI.gc (isW.i1 (by assumption)) | exact isI.gx (isW.i2 (by assumption)) | exact isI.gc (isW.i2 (by assumption)) | exact isI.gx (isW.i3 (by assumption)) | exact isI.gc (isW.i3 (by assumption)) | exact isI.gx (isW.i4 (by assumption)) | exact isI.gc (isW.i4 (by assumption)) | exact isI.gx (isW.i5 (by assumption)) | exact isI.gc (isW.i5 (by assumption)) | exact isR.gx (by assumption) | exact isRd.gx (by assumption) | exact isSp.gx (by assumption) | exact isI.gx (isR.i (by assumption)) | exact isI.gx (isRd.i (by assumption)) | exact isI.gc (isRd.i (by assumption)) | exact isI.gx (isSp.i (by assumption)) | exact isW.gx (isR.w (by assumption)) | exact isW.gF (isR.w (by assumption)) | fail "no such object") rfl rfl (Nat.le_of_ble_eq_true rfl) (cd_here _ hD hp he ho hz' hf') (fun v_69 h_69 q_69 => ?_)
  obtain ⟨rfl, rfl⟩ := q_69
  have rh := hereC_r (p := s.1) (z := z) hf'
  refine r_iload_n (pc := 72) dX2_readSteps_72 rfl ?_
  refine rj_icmp_ne (pc := 73) (tgt := 88) dX2_readSteps_73 (by decide) (by first | exact b01_r | exact bz_r | omega | (constructor <;> omega) | apply_assumption | (apply atF_r; assumption) | fail "no range") (by first | exact b01_r | exact bz_r | omega | (constructor <;> omega) | apply_assumption | (apply atF_r; assumption) | fail "no range") (fun c_73 => ?_) (fun c_73 => ?_)
  · refine r_aload_n (pc := 88) dX2_readSteps_88 rfl (by first | rfl | exact isRefV_rf _) ?_
    refine r_aload_n (pc := 89) dX2_readSteps_89 rfl (by first | rfl | exact isRefV_rf _) ?_
    refine r_getf (pc := 90) dX2_readSteps_90 fX2_53 (by first | assumption | exact isI.gx (by assumption) | exact isI.gc (by assumption) | exact isW.gx (by assumption) | exact isW.gF (by assumption) | exact isW.gT (by assumption) (by omega) | exact isW.gS (by assumption) (by omega) | exact isW.gK (by assumption) (by omega) | exact isW.g1 (by assumption) | exact isW.g2 (by assumption) | exact isW.g3 (by assumption) | exact isI.gx (isW.i0 (by assumption)) | exact isI.gc (isW.i0 (by assumption)) | exact isI.gx (isW.i1 (by assumption)) | exact isI.gc (isW.i1 (by assumption)) | exact isI.gx (isW.i2 (by assumption)) | exact isI.gc (isW.i2 (by assumption)) | exact isI.gx (isW.i3 (by assumption)) | exact isI.gc (isW.i3 (by assumption)) | exact isI.gx (isW.i4 (by assumption)) | exact isI.gc (isW.i4 (by assumption)) | exact isI.gx (isW.i5 (by assumption)) | exact isI.gc (isW.i5 (by assumption)) | exact isR.gx (by assumption) | exact isRd.gx (by assumption) | exact isSp.gx (by assumption) | exact isI.gx (isR.i (by assumption)) | exact isI.gx (isRd.i (by assumption)) | exact isI.gc (isRd.i (by assumption)) | exact isI.gx (isSp.i (by assumption)) | exact isW.gx (isR.w (by assumption)) | exact isW.gF (isR.w (by assumption)) | fail "no such object") (by rfl) ?_
    refine r_callV1 (pc := 93) dX2_readSteps_93 qX2_failAt kX2_56 vX2_failAt (by first | assumption | exact isI.gx (by assumption) | exact isI.gc (by assumption) | exact isW.gx (by assumption) | exact isW.gF (by assumption) | exact isW.gT (by assumption) (by omega) | exact isW.gS (by assumption) (by omega) | exact isW.gK (by assumption) (by omega) | exact isW.g1 (by assumption) | exact isW.g2 (by assumption) | exact isW.g3 (by assumption) | exact isI.gx (isW.i0 (by assumption)) | exact isI.gc (isW.i0 (by assumption)) | exact isI.gx (isW.i1 (by assumption)) | exact isI.gc (isW.i1 (by assumption)) | exact isI.gx (isW.i2 (by assumption)) | exact isI.gc (isW.i2 (by assumption)) | exact isI.gx (isW.i3 (by assumption)) | exact isI.gc (isW.i3 (by assumption)) | exact isI.gx (isW.i4 (by assumption)) | exact isI.gc (isW.i4 (by assumption)) | exact isI.gx (isW.i5 (by assumption)) | exact isI.gc (isW.i5 (by assumption)) | exact isR.gx (by assumption) | exact isRd.gx (by assumption) | exact isSp.gx (by assumption) | exact isI.gx (isR.i (by assumption)) | exact isI.gx (isRd.i (by assumption)) | exact isI.gc (isRd.i (by assumption)) | exact isI.gx (isSp.i (by assumption)) | exact isW.gx (isR.w (by assumption)) | exact isW.gF (isR.w (by assumption)) | fail "no such object") rfl rfl (Nat.le_of_ble_eq_true rfl) (rd_failAt _ hD he s.1) (fun v_93 h_93 q_93 => ?_)
    obtain ⟨rfl, D_93, S_93⟩ := q_93
    refine r_aload_n (pc := 96) dX2_readSteps_96 rfl (by first | rfl | exact isRefV_rf _) ?_
    refine r_areturn (pc := 97) _ dX2_readSteps_97 rfl (Or.inl ⟨_, rfl⟩) (by first | rfl | exact isRefV_rf _) ?_
    first | exact ⟨rfl, by unfold etM; rw [if_pos ⟨by omega, by omega⟩]; exact hD, Same.refl⟩ | exact ⟨rfl, by unfold etM; rw [if_neg (by omega)]; exact D_93, S_93⟩
  · refine r_iload_n (pc := 76) dX2_readSteps_76 rfl ?_
    refine rj_iconst (pc := 77) dX2_readSteps_77 ?_
    refine rj_icmp_ne (pc := 78) (tgt := 96) dX2_readSteps_78 (by decide) (by first | exact b01_r | exact bz_r | omega | (constructor <;> omega) | apply_assumption | (apply atF_r; assumption) | fail "no range") (by first | exact b01_r | exact bz_r | omega | (constructor <;> omega) | apply_assumption | (apply atF_r; assumption) | fail "no range") (fun c_78 => ?_) (fun c_78 => ?_)
    · refine r_aload_n (pc := 96) dX2_readSteps_96 rfl (by first | rfl | exact isRefV_rf _) ?_
      refine r_areturn (pc := 97) _ dX2_readSteps_97 rfl (Or.inl ⟨_, rfl⟩) (by first | rfl | exact isRefV_rf _) ?_
      first | exact ⟨rfl, by unfold etM; rw [if_pos ⟨by omega, by omega⟩]; exact hD, Same.refl⟩ | exact ⟨rfl, by unfold etM; rw [if_neg (by omega)]; exact D_93, S_93⟩
    · refine r_aload_n (pc := 81) dX2_readSteps_81 rfl (by first | rfl | exact isRefV_rf _) ?_
      refine r_getf (pc := 82) dX2_readSteps_82 fX2_59 (by first | assumption | exact isI.gx (by assumption) | exact isI.gc (by assumption) | exact isW.gx (by assumption) | exact isW.gF (by assumption) | exact isW.gT (by assumption) (by omega) | exact isW.gS (by assumption) (by omega) | exact isW.gK (by assumption) (by omega) | exact isW.g1 (by assumption) | exact isW.g2 (by assumption) | exact isW.g3 (by assumption) | exact isI.gx (isW.i0 (by assumption)) | exact isI.gc (isW.i0 (by assumption)) | exact isI.gx (isW.i1 (by assumption)) | exact isI.gc (isW.i1 (by assumption)) | exact isI.gx (isW.i2 (by assumption)) | exact isI.gc (isW.i2 (by assumption)) | exact isI.gx (isW.i3 (by assumption)) | exact isI.gc (isW.i3 (by assumption)) | exact isI.gx (isW.i4 (by assumption)) | exact isI.gc (isW.i4 (by assumption)) | exact isI.gx (isW.i5 (by assumption)) | exact isI.gc (isW.i5 (by assumption)) | exact isR.gx (by assumption) | exact isRd.gx (by assumption) | exact isSp.gx (by assumption) | exact isI.gx (isR.i (by assumption)) | exact isI.gx (isRd.i (by assumption)) | exact isI.gc (isRd.i (by assumption)) | exact isI.gx (isSp.i (by assumption)) | exact isW.gx (isR.w (by assumption)) | exact isW.gF (isR.w (by assumption)) | fail "no such object") (by rfl) ?_
      refine rj_if_le (pc := 85) (tgt := 96) dX2_readSteps_85 (by decide) (by first | exact b01_r | exact bz_r | omega | (constructor <;> omega) | apply_assumption | (apply atF_r; assumption) | fail "no range") (fun c_85 => ?_) (fun c_85 => ?_)
      · refine r_aload_n (pc := 96) dX2_readSteps_96 rfl (by first | rfl | exact isRefV_rf _) ?_
        refine r_areturn (pc := 97) _ dX2_readSteps_97 rfl (Or.inl ⟨_, rfl⟩) (by first | rfl | exact isRefV_rf _) ?_
        first | exact ⟨rfl, by unfold etM; rw [if_pos ⟨by omega, by omega⟩]; exact hD, Same.refl⟩ | exact ⟨rfl, by unfold etM; rw [if_neg (by omega)]; exact D_93, S_93⟩
      · refine r_aload_n (pc := 88) dX2_readSteps_88 rfl (by first | rfl | exact isRefV_rf _) ?_
        refine r_aload_n (pc := 89) dX2_readSteps_89 rfl (by first | rfl | exact isRefV_rf _) ?_
        refine r_getf (pc := 90) dX2_readSteps_90 fX2_53 (by first | assumption | exact isI.gx (by assumption) | exact isI.gc (by assumption) | exact isW.gx (by assumption) | exact isW.gF (by assumption) | exact isW.gT (by assumption) (by omega) | exact isW.gS (by assumption) (by omega) | exact isW.gK (by assumption) (by omega) | exact isW.g1 (by assumption) | exact isW.g2 (by assumption) | exact isW.g3 (by assumption) | exact isI.gx (isW.i0 (by assumption)) | exact isI.gc (isW.i0 (by assumption)) | exact isI.gx (isW.i1 (by assumption)) | exact isI.gc (isW.i1 (by assumption)) | exact isI.gx (isW.i2 (by assumption)) | exact isI.gc (isW.i2 (by assumption)) | exact isI.gx (isW.i3 (by assumption)) | exact isI.gc (isW.i3 (by assumption)) | exact isI.gx (isW.i4 (by assumption)) | exact isI.gc (isW.i4 (by assumption)) | exact isI.gx (isW.i5 (by assumption)) | exact isI.gc (isW.i5 (by assumption)) | exact isR.gx (by assumption) | exact isRd.gx (by assumption) | exact isSp.gx (by assumption) | exact isI.gx (isR.i (by assumption)) | exact isI.gx (isRd.i (by assumption)) | exact isI.gc (isRd.i (by assumption)) | exact isI.gx (isSp.i (by assumption)) | exact isW.gx (isR.w (by assumption)) | exact isW.gF (isR.w (by assumption)) | fail "no such object") (by rfl) ?_
        refine r_callV1 (pc := 93) dX2_readSteps_93 qX2_failAt kX2_56 vX2_failAt (by first | assumption | exact isI.gx (by assumption) | exact isI.gc (by assumption) | exact isW.gx (by assumption) | exact isW.gF (by assumption) | exact isW.gT (by assumption) (by omega) | exact isW.gS (by assumption) (by omega) | exact isW.gK (by assumption) (by omega) | exact isW.g1 (by assumption) | exact isW.g2 (by assumption) | exact isW.g3 (by assumption) | exact isI.gx (isW.i0 (by assumption)) | exact isI.gc (isW.i0 (by assumption)) | exact isI.gx (isW.i1 (by assumption)) | exact isI.gc (isW.i1 (by assumption)) | exact isI.gx (isW.i2 (by assumption)) | exact isI.gc (isW.i2 (by assumption)) | exact isI.gx (isW.i3 (by assumption)) | exact isI.gc (isW.i3 (by assumption)) | exact isI.gx (isW.i4 (by assumption)) | exact isI.gc (isW.i4 (by assumption)) | exact isI.gx (isW.i5 (by assumption)) | exact isI.gc (isW.i5 (by assumption)) | exact isR.gx (by assumption) | exact isRd.gx (by assumption) | exact isSp.gx (by assumption) | exact isI.gx (isR.i (by assumption)) | exact isI.gx (isRd.i (by assumption)) | exact isI.gc (isRd.i (by assumption)) | exact isI.gx (isSp.i (by assumption)) | exact isW.gx (isR.w (by assumption)) | exact isW.gF (isR.w (by assumption)) | fail "no such object") rfl rfl (Nat.le_of_ble_eq_true rfl) (rd_failAt _ hD he s.1) (fun v_93 h_93 q_93 => ?_)
        obtain ⟨rfl, D_93, S_93⟩ := q_93
        refine r_aload_n (pc := 96) dX2_readSteps_96 rfl (by first | rfl | exact isRefV_rf _) ?_
        refine r_areturn (pc := 97) _ dX2_readSteps_97 rfl (Or.inl ⟨_, rfl⟩) (by first | rfl | exact isRefV_rf _) ?_
        first | exact ⟨rfl, by unfold etM; rw [if_pos ⟨by omega, by omega⟩]; exact hD, Same.refl⟩ | exact ⟨rfl, by unfold etM; rw [if_neg (by omega)]; exact D_93, S_93⟩
set_option maxHeartbeats 4000000 in
set_option maxRecDepth 100000 in
theorem rt_fail {G : mG} {l : Launch} (d : Nat) {h : mH} {a : Nat} {s : Int × Int} {o z : Int} {f : Nat → Int} (hD : isRd h a s.1 s.2 o z f) (hs : rgS z s) (ho1 : -1 ≤ o ∧ o ≤ 200) (hz : 0 ≤ z ∧ z ≤ 120) (hf : bytesOk f) {br en : Int} (hen : en = 125 ∨ en = -1) (hF : (s.1 = z ∧ 0 ≤ s.2) ∨ (hereC s.1 z f = 123 ∧ s.2 = -1)) {r0 rr : Option Nat} {t : Int} (ht : InR t) : RUN G l (d + 1) mX2_readSteps 13 [some (.ref a), some (.int (J br)), some (.int (J en)), some (va_rf r0), some (va_rf rr), some (.int (J t))] [] h (fun v h' => v = some (va_rf r0) ∧ isRd h' a z (ftE s.2 s.1) o z f ∧ Same (dBlk a) h h') := by
  have eM : etM z f en o s = (z, ftE s.2 s.1) := by
    unfold etM
    split
    · rename_i c
      rcases hF with ⟨g1, g2⟩ | ⟨g1, g2⟩
      · rw [ftE_s g2, ← g1]
      · exfalso; omega
    · rfl
  have h59 : ¬ hereC s.1 z f = 59 := by
    rcases hF with ⟨g1, g2⟩ | ⟨g1, g2⟩
    · rw [g1, hereC_e]; decide
    · omega
  have y := fun (v4 v5 : Option Value) => rt_end (G := G) (l := l) d (h := h) (br := br) (r0 := r0) (v4 := v4) (v5 := v5) hD hs ho1 hz hf hen
  rw [eM] at y
  obtain ⟨⟨h1, h2⟩, h3, h4⟩ := hs
  have hf' : ∀ q, InR (f q) := fun q => by have := hf q; exact ⟨by omega, by omega⟩
  have hp : InR s.1 := ⟨by omega, by omega⟩
  have he : InR s.2 := ⟨by omega, by omega⟩
  have hz' : InR z := ⟨by omega, by omega⟩
  have hh : -1 ≤ hereC s.1 z f := by
    unfold hereC; split
    · have := hf s.1.toNat; omega
    · omega
  have ho : InR o := ⟨by omega, by omega⟩
  refine r_iload (pc := 13) dX2_readSteps_13 rfl ?_
  refine rj_bipush (pc := 15) dX2_readSteps_15 (by decide +kernel) ?_
  refine rj_icmp_ge (pc := 17) (tgt := 68) dX2_readSteps_17 (by decide) (by first | exact b01_r | exact bz_r | omega | (constructor <;> omega) | apply_assumption | (apply atF_r; assumption) | fail "no range") (by first | exact b01_r | exact bz_r | omega | (constructor <;> omega) | apply_assumption | (apply atF_r; assumption) | fail "no range") (fun c_17 => ?_) (fun c_17 => ?_)
  · exact y _ _
  · refine r_aload (pc := 20) dX2_readSteps_20 rfl (by first | rfl | exact isRefV_rf _) ?_
    refine r_ifnull (pc := 22) (tgt := 68) dX2_readSteps_22 (by decide) (by first | rfl | exact isRefV_rf _) (fun c_22 => ?_) (fun a_22 c_22 => ?_)
    · exact y _ _
    · refine r_aload_n (pc := 25) dX2_readSteps_25 rfl (by first | rfl | exact isRefV_rf _) ?_
      refine r_callV0 (pc := 26) dX2_readSteps_26 qX2_here kX2_34 vX2_here (by first | assumption | exact isI.gx (by assumption) | exact isI.gc (by assumption) | exact isW.gx (by assumption) | exact isW.gF (by assumption) | exact isW.gT (by assumption) (by omega) | exact isW.gS (by assumption) (by omega) | exact isW.gK (by assumption) (by omega) | exact isW.g1 (by assumption) | exact isW.g2 (by assumption) | exact isW.g3 (by assumption) | exact isI.gx (isW.i0 (by assumption)) | exact isI.gc (isW.i0 (by assumption)) | exact isI.gx (isW.i1 (by assumption)) | exact isI.gc (isW.i1 (by assumption)) | exact isI.gx (isW.i2 (by assumption)) | exact isI.gc (isW.i2 (by assumption)) | exact isI.gx (isW.i3 (by assumption)) | exact isI.gc (isW.i3 (by assumption)) | exact isI.gx (isW.i4 (by assumption)) | exact isI.gc (isW.i4 (by assumption)) | exact isI.gx (isW.i5 (by assumption)) | exact isI.gc (isW.i5 (by assumption)) | exact isR.gx (by assumption) | exact isRd.gx (by assumption) | exact isSp.gx (by assumption) | exact isI.gx (isR.i (by assumption)) | exact isI.gx (isRd.i (by assumption)) | exact isI.gc (isRd.i (by assumption)) | exact isI.gx (isSp.i (by assumption)) | exact isW.gx (isR.w (by assumption)) | exact isW.gF (isR.w (by assumption)) | fail "no such object") rfl rfl (Nat.le_of_ble_eq_true rfl) (cd_here _ hD hp he ho hz' hf') (fun v_26 h_26 q_26 => ?_)
      obtain ⟨rfl, rfl⟩ := q_26
      have rh := hereC_r (p := s.1) (z := z) hf'
      refine rj_bipush (pc := 29) dX2_readSteps_29 (by decide +kernel) ?_
      refine rj_icmp_ne (pc := 31) (tgt := 68) dX2_readSteps_31 (by decide) (by first | exact b01_r | exact bz_r | omega | (constructor <;> omega) | apply_assumption | (apply atF_r; assumption) | fail "no range") (by first | exact b01_r | exact bz_r | omega | (constructor <;> omega) | apply_assumption | (apply atF_r; assumption) | fail "no range") (fun c_31 => ?_) (fun c_31 => ?_)
      · exact y _ _
      · exact absurd ‹hereC s.1 z f = 59› h59
theorem stL_o {S : Nat → Option mO} {sr : Nat → Int} {o2 : Nat} : ∀ (n o a hi p E : Nat), stL S sr n false o a hi p E → stL S sr n false o2 a hi p E
  | 0, _, _, _, _, _, h => h.elim
  | n + 1, o, a, hi, p, E, h => by
    obtain ⟨nx, mid, e, o', h1, h2, h3, h4⟩ := h
    rcases h1 with ⟨k, -⟩ | ⟨k, -⟩ | ⟨k, -⟩
    · refine ⟨nx, mid, e, o2, Or.inl ⟨k, rfl⟩, h2, h3, ?_⟩
      rcases h4 with h4 | ⟨h4, h5, b, h6, h7, h8⟩
      · exact Or.inl h4
      · exact Or.inr ⟨h4, h5, b, h6, h7, stL_o n o' b hi _ E h8⟩
    · cases k
    · cases k
theorem endC_h {z : Int} {f : Nat → Int} {p : Nat} {en : Int} (hz : z ≤ 120) (hen : en = 125 ∨ en = -1) (h : hereC p z f = en) (hf : bytesOk f) : endC (clip f z p) := by
  rw [hereC_f (by omega) hz] at h
  unfold hereF at h
  unfold clip endC
  have b := hf p
  split at h
  · rw [if_pos (by assumption)]
    rw [show ((p : Int)).toNat = p by omega] at h
    omega
  · rw [if_neg (by assumption)]; exact Or.inr (Or.inr rfl)
theorem stepsL_s {sr : Nat → Int} {len : Int} {st : PS → Bool × PS} {k : Nat} {n : Int} {r : Bool × PS} (h : r.1 = true ∧ hereF sr len r.2.1 = 59) : stepsL sr len st (k + 1) n r = stepsL sr len st k (n + 1) (st (advF r.2)) := by
  show (if r.1 = true ∧ hereF sr len r.2.1 = 59 then stepsL sr len st k (n + 1) (st (advF r.2)) else (r, n)) = _
  rw [if_pos h]
theorem stepsL_n {sr : Nat → Int} {len : Int} {st : PS → Bool × PS} {k : Nat} {n : Int} {r : Bool × PS} (h : ¬ (r.1 = true ∧ hereF sr len r.2.1 = 59)) : stepsL sr len st k n r = (r, n) := by
  cases k with
  | zero => rfl
  | succ k =>
    show (if r.1 = true ∧ hereF sr len r.2.1 = 59 then stepsL sr len st k (n + 1) (st (advF r.2)) else (r, n)) = _
    rw [if_neg h]
theorem ftE_F {z : Int} {f : Nat → Int} {P E X : Int} (hX : 0 ≤ X) (h : (P = z ∧ E = X) ∨ (P = X ∧ E = -1 ∧ hereC P z f = 123)) : ((P = z ∧ 0 ≤ E) ∨ (hereC P z f = 123 ∧ E = -1)) ∧ ftE E P = X := by
  rcases h with ⟨h1, h2⟩ | ⟨h1, h2, h3⟩
  · exact ⟨Or.inl ⟨h1, by omega⟩, by rw [ftE_s (by omega)]; exact h2⟩
  · exact ⟨Or.inr ⟨h3, h2⟩, by rw [h2, ftE_n]; exact h1⟩
theorem or3 {P Q : Prop} {r : Option Nat} (h : P ∨ Q) : P ∨ (r = none ∧ Q) ∨ (∃ b, r = some b ∧ Q) := by
  rcases h with h | h
  · exact Or.inl h
  · rcases r with _ | b
    · exact Or.inr (Or.inl ⟨rfl, h⟩)
    · exact Or.inr (Or.inr ⟨b, rfl, h⟩)
theorem stO_nx {kd num vl kd2 num2 vl2 : Int} {y y2 : Int64} {inn inn2 n n' : Option Nat} (h : stO kd num vl y inn n = stO kd2 num2 vl2 y2 inn2 n) : stO kd num vl y inn n' = stO kd2 num2 vl2 y2 inn2 n' := by
  unfold stO at h ⊢
  simp only [Sum.inl.injEq, Prod.mk.injEq, List.cons.injEq, true_and, and_true] at h ⊢
  obtain ⟨a1, a2, a3, a4, a5⟩ := h
  exact ⟨a1, a2, a3, a4, a5⟩
set_option maxHeartbeats 4000000 in
set_option maxRecDepth 100000 in
theorem rt_loop {G : mG} {l : Launch} {n : Nat} {z : Int} {f : Nat → Int} {a w : Nat} {it : Bool} {h0 : mH} {o0 p0 : Nat} {en : Int} (hR : RDN G l z f a n) (hz : 0 ≤ z ∧ z ≤ 120) (hf : bytesOk f) (hen : en = 125 ∨ en = -1) (ha : a + 3 ≤ h0.2.1) (hw : w ≤ 3) (hit : it = true ↔ w = 0 ∧ (false : Bool) = false) (hn : 2 * (3 - w) + 2 ≤ n) : ∀ (k : Nat) (nn : Int) (r : Bool × PS) (kk p1 o1 l9 t : Nat) (h1 : mH), r.1 = true → r.2.1 = p1 → r.2.2.1 = -1 → r.2.2.2.2.2 = o1 → (p1 : Int) ≤ z → o1 ≤ p1 → (it = false → o1 = o0) → p0 < p1 → isRd h1 a p1 (-1) o1 z f → FrR a h0 h1 → h1.2.1 + p0 ≤ h0.2.1 + p1 → sgL (hGet h1) (clip f z) it kk o0 h0.2.1 l9 h1.2.1 p0 p1 o1 → 1 ≤ t → p0 + 2 * t ≤ p1 + 1 → z < k + p1 → RUN G l (3 * n + 4 + 1) mX2_readSteps 13 [some (.ref a), some (.int (J (w : Int))), some (.int (J en)), some (.ref h0.2.1), some (.ref l9), some (.int (J (t : Int)))] [] h1 (fun v h' => rtPost z f a it o0 p0 en (setN (stepsL f z (stepN f z n w it false) k nn r)) h0 v h') := by
  intro k
  induction k with
  | zero =>
    intro nn r kk p1 o1 l9 t h1 r1 r2 r3 r4 hp1 ho1 hoo hlt hD F hs sg ht ht2 hk
    exfalso; omega
  | succ k ih =>
    intro nn r kk p1 o1 l9 t h1 r1 r2 r3 r4 hp1 ho1 hoo hlt hD F hs sg ht ht2 hk
    have hf' : ∀ q, InR (f q) := fun q => by have := hf q; exact ⟨by omega, by omega⟩
    have hp : InR (p1 : Int) := ⟨by omega, by omega⟩
    have he : InR (-1) := ⟨by decide, by decide⟩
    have hz' : InR z := ⟨by omega, by omega⟩
    have ho : InR (o1 : Int) := ⟨by omega, by omega⟩
    have hF1 : hereC p1 z f = hereF f z r.2.1 := by rw [r2]; exact hereC_f (by omega) hz.2
    have ex : ∀ (v4 v5 : Option Value), ¬ hereC p1 z f = 59 → RUN G l (3 * n + 4 + 1) mX2_readSteps 68 [some (.ref a), some (.int (J (w : Int))), some (.int (J en)), some (.ref h0.2.1), v4, v5] [] h1 (fun v h' => rtPost z f a it o0 p0 en (setN (stepsL f z (stepN f z n w it false) (k + 1) nn r)) h0 v h') := fun v4 v5 hne => by
      rw [stepsL_n (fun g => hne (by rw [hF1]; exact g.2))]
      refine (rt_end (G := G) (l := l) (3 * n + 4) (h := h1) (s := (p1, -1)) (o := o1) (br := (w : Int)) (r0 := some h0.2.1) (v4 := v4) (v5 := v5) hD ⟨⟨by dsimp only; omega, hp1⟩, by dsimp only; omega, by dsimp only; omega⟩ ⟨by omega, by omega⟩ hz hf hen).mono (fun v h' g => ?_)
      obtain ⟨g1, g2, g3⟩ := g
      refine ⟨some h0.2.1, g1, F.tr (FrR.sm g3), ?_⟩
      have q1 : (setN (r, nn)).1 = true := r1
      have q2 : (setN (r, nn)).2.1 = p1 := r2
      have q3 : (setN (r, nn)).2.2.1 = -1 := r3
      have q4 : (setN (r, nn)).2.2.2.2.2 = o1 := r4
      rw [q1, q2, q3, q4]
      have sz := g3.2.1
      by_cases c : hereC p1 z f = en ∧ ¬ (en = -1 ∧ (0 : Int) < o1)
      · have eM : etM z f en o1 ((p1 : Int), -1) = ((p1 : Int), -1) := by unfold etM; rw [if_pos c]
        rw [eM] at g2
        have l1 := sgL_l _ _ _ _ _ _ _ _ sg
        refine Or.inl ⟨rfl, c.1, c.2, rfl, rfl, p1, o1, rfl, rfl, g2, hp1, hlt, ho1, hoo, by omega, by omega, ?_⟩
        obtain ⟨N, y⟩ := sgL_e _ _ _ _ _ _ _ _ sg (endC_h hz.2 hen c.1 hf)
        exact ⟨N, stL_c N N (Nat.le_refl _) _ _ _ _ _ _ _ (by omega) (fun b b1 b2 => g3.2.2.2 b (by unfold dBlk; omega)) y⟩
      · have eM : etM z f en o1 ((p1 : Int), -1) = (z, (p1 : Int)) := by unfold etM; rw [if_neg c, ftE_n]
        rw [eM] at g2
        exact Or.inr ⟨fun q => c q.2, fun _ => rfl, p1, o1, by rw [if_pos rfl], by omega, by omega, g2, by omega⟩
    refine r_iload (pc := 13) dX2_readSteps_13 rfl ?_
    refine rj_bipush (pc := 15) dX2_readSteps_15 (by decide +kernel) ?_
    refine rj_icmp_ge (pc := 17) (tgt := 68) dX2_readSteps_17 (by decide) (by first | exact b01_r | exact bz_r | omega | (constructor <;> omega) | apply_assumption | (apply atF_r; assumption) | fail "no range") (by first | exact b01_r | exact bz_r | omega | (constructor <;> omega) | apply_assumption | (apply atF_r; assumption) | fail "no range") (fun c_17 => ?_) (fun c_17 => ?_)
    · exfalso; omega
    · refine r_aload (pc := 20) dX2_readSteps_20 rfl (by first | rfl | exact isRefV_rf _) ?_
      refine r_ifnull (pc := 22) (tgt := 68) dX2_readSteps_22 (by decide) (by first | rfl | exact isRefV_rf _) (fun c_22 => by cases c_22) (fun a_22 c_22 => ?_)
      refine r_aload_n (pc := 25) dX2_readSteps_25 rfl (by first | rfl | exact isRefV_rf _) ?_
      refine r_callV0 (pc := 26) dX2_readSteps_26 qX2_here kX2_34 vX2_here (by first | assumption | exact isI.gx (by assumption) | exact isI.gc (by assumption) | exact isW.gx (by assumption) | exact isW.gF (by assumption) | exact isW.gT (by assumption) (by omega) | exact isW.gS (by assumption) (by omega) | exact isW.gK (by assumption) (by omega) | exact isW.g1 (by assumption) | exact isW.g2 (by assumption) | exact isW.g3 (by assumption) | exact isI.gx (isW.i0 (by assumption)) | exact isI.gc (isW.i0 (by assumption)) | exact isI.gx (isW.i1 (by assumption)) | exact isI.gc (isW.i1 (by assumption)) | exact isI.gx (isW.i2 (by assumption)) | exact isI.gc (isW.i2 (by assumption)) | exact isI.gx (isW.i3 (by assumption)) | exact isI.gc (isW.i3 (by assumption)) | exact isI.gx (isW.i4 (by assumption)) | exact isI.gc (isW.i4 (by assumption)) | exact isI.gx (isW.i5 (by assumption)) | exact isI.gc (isW.i5 (by assumption)) | exact isR.gx (by assumption) | exact isRd.gx (by assumption) | exact isSp.gx (by assumption) | exact isI.gx (isR.i (by assumption)) | exact isI.gx (isRd.i (by assumption)) | exact isI.gc (isRd.i (by assumption)) | exact isI.gx (isSp.i (by assumption)) | exact isW.gx (isR.w (by assumption)) | exact isW.gF (isR.w (by assumption)) | fail "no such object") rfl rfl (Nat.le_of_ble_eq_true rfl) (cd_here _ hD hp he ho hz' hf') (fun v_26 h_26 q_26 => ?_)
      obtain ⟨rfl, e_26⟩ := q_26
      have e_26 := e_26.symm
      subst e_26
      have rh := hereC_r (p := (p1 : Int)) (z := z) hf'
      refine rj_bipush (pc := 29) dX2_readSteps_29 (by decide +kernel) ?_
      refine rj_icmp_ne (pc := 31) (tgt := 68) dX2_readSteps_31 (by decide) (by first | exact b01_r | exact bz_r | omega | (constructor <;> omega) | apply_assumption | (apply atF_r; assumption) | fail "no range") (by first | exact b01_r | exact bz_r | omega | (constructor <;> omega) | apply_assumption | (apply atF_r; assumption) | fail "no range") (fun c_31 => ?_) (fun c_31 => ?_)
      · exact ex _ _ (by assumption)
      · refine r_aload_n (pc := 34) dX2_readSteps_34 rfl (by first | rfl | exact isRefV_rf _) ?_
        refine r_dup (pc := 35) dX2_readSteps_35 (by first | rfl | (cases ‹Option Nat› <;> rfl)) ?_
        refine r_getf (pc := 36) dX2_readSteps_36 fX2_53 (by first | assumption | exact isI.gx (by assumption) | exact isI.gc (by assumption) | exact isW.gx (by assumption) | exact isW.gF (by assumption) | exact isW.gT (by assumption) (by omega) | exact isW.gS (by assumption) (by omega) | exact isW.gK (by assumption) (by omega) | exact isW.g1 (by assumption) | exact isW.g2 (by assumption) | exact isW.g3 (by assumption) | exact isI.gx (isW.i0 (by assumption)) | exact isI.gc (isW.i0 (by assumption)) | exact isI.gx (isW.i1 (by assumption)) | exact isI.gc (isW.i1 (by assumption)) | exact isI.gx (isW.i2 (by assumption)) | exact isI.gc (isW.i2 (by assumption)) | exact isI.gx (isW.i3 (by assumption)) | exact isI.gc (isW.i3 (by assumption)) | exact isI.gx (isW.i4 (by assumption)) | exact isI.gc (isW.i4 (by assumption)) | exact isI.gx (isW.i5 (by assumption)) | exact isI.gc (isW.i5 (by assumption)) | exact isR.gx (by assumption) | exact isRd.gx (by assumption) | exact isSp.gx (by assumption) | exact isI.gx (isR.i (by assumption)) | exact isI.gx (isRd.i (by assumption)) | exact isI.gc (isRd.i (by assumption)) | exact isI.gx (isSp.i (by assumption)) | exact isW.gx (isR.w (by assumption)) | exact isW.gF (isR.w (by assumption)) | fail "no such object") (by rfl) ?_
        refine rj_iconst (pc := 39) dX2_readSteps_39 ?_
        refine rj_iadd (pc := 40) dX2_readSteps_40 ?_
        refine rc_putD1 (pc := 41) dX2_readSteps_41 fX2_53 (by assumption) (fun h_41 hW_41 hS_41 => ?_)
        refine r_aload (pc := 44) dX2_readSteps_44 rfl (by first | rfl | exact isRefV_rf _) ?_
        refine r_aload_n (pc := 46) dX2_readSteps_46 rfl (by first | rfl | exact isRefV_rf _) ?_
        refine r_iload_n (pc := 47) dX2_readSteps_47 rfl ?_
        refine rj_iconst (pc := 48) dX2_readSteps_48 ?_
        have lt59 := hereC_lt (p := (p1 : Int)) (z := z) (f := f) (by omega)
        have z1 := hS_41.2.1
        have z2 := F.2.1
        have z3 := F.1
        have z4 := hS_41.1
        have z5 := hD.lo
        rw [show (p1 : Int) + 1 = ((p1 + 1 : Nat) : Int) by omega] at hW_41
        have l1 := sgL_l _ _ _ _ _ _ _ _ sg
        refine r_callV2 (pc := 49) dX2_readSteps_49 qX2_readStep kX2_69 vX2_readStep (by first | assumption | exact isI.gx (by assumption) | exact isI.gc (by assumption) | exact isW.gx (by assumption) | exact isW.gF (by assumption) | exact isW.gT (by assumption) (by omega) | exact isW.gS (by assumption) (by omega) | exact isW.gK (by assumption) (by omega) | exact isW.g1 (by assumption) | exact isW.g2 (by assumption) | exact isW.g3 (by assumption) | exact isI.gx (isW.i0 (by assumption)) | exact isI.gc (isW.i0 (by assumption)) | exact isI.gx (isW.i1 (by assumption)) | exact isI.gc (isW.i1 (by assumption)) | exact isI.gx (isW.i2 (by assumption)) | exact isI.gc (isW.i2 (by assumption)) | exact isI.gx (isW.i3 (by assumption)) | exact isI.gc (isW.i3 (by assumption)) | exact isI.gx (isW.i4 (by assumption)) | exact isI.gc (isW.i4 (by assumption)) | exact isI.gx (isW.i5 (by assumption)) | exact isI.gc (isW.i5 (by assumption)) | exact isR.gx (by assumption) | exact isRd.gx (by assumption) | exact isSp.gx (by assumption) | exact isI.gx (isR.i (by assumption)) | exact isI.gx (isRd.i (by assumption)) | exact isI.gc (isRd.i (by assumption)) | exact isI.gx (isSp.i (by assumption)) | exact isW.gx (isR.w (by assumption)) | exact isW.gF (isR.w (by assumption)) | fail "no such object") rfl rfl (Nat.le_of_ble_eq_true rfl) (hR w it false 0 h_41 (p1 + 1) o1 (advF r.2) ⟨fun g => (by cases g), fun _ => rfl⟩ hw hit hn (by show r.2.1 + 1 = _; rw [r2]; omega) r3 r4 (by omega) (by omega) hW_41 (by omega)) (fun v_49 h_49 q_49 => ?_)
        obtain ⟨r_49, rfl, F_49, Z_49⟩ := q_49
        have e59 := stepsL_s (st := stepN f z n w it false) (k := k) (n := nn) ⟨r1, by rw [← hF1]; assumption⟩
        rw [e59]
        obtain ⟨kd, num, vl, y, inn, sn⟩ := sgL_n _ _ _ _ _ _ _ _ sg
        have o_49 : hGet h_49 l9 = some (stO kd num vl y inn none) := (F_49.2.2.2 l9 (by omega) (by unfold dBlk; omega)).trans ((hS_41.2.2.2 l9 (by unfold dBlk; omega)).trans sn)
        unfold stO at o_49
        have z6 := F_49.1
        have z7 := F_49.2.1
        replace Z_49 := or3 (r := r_49) Z_49
        rcases Z_49 with ⟨u1, u2, rfl, p2, o2, u3, u4, D_49, u5, u6, u7, ub, u8, u9⟩ | ⟨rfl, u1, P_9, E_9, o_9, D_49, w1, w2, w3, w4, w5⟩ | ⟨b_9, rfl, u1, P_9, E_9, o_9, D_49, w1, w2, w3, w4, w5⟩
        · skip
          refine r_putf (pc := 52) dX2_readSteps_52 fX2_73 o_49 (by omega) (by first | rfl | exact narrow_rf _ _) (by first | rfl | exact fits_rf _ _) (Nat.le_of_ble_eq_true rfl) ?_
          dsimp only [List.set]
          refine rg_gen (fun h_52 o_52 s_52 l_52 n_52 k_52 => ?_)
          have D_52 := D_49.keep2 l_52 (fun b hb => s_52 b (by unfold dBlk at hb; omega))
          have F_52 : FrR a h0 h_52 := ((F.tr (FrR.sm hS_41)).tr F_49).st (st := l9) l1.1 ⟨l_52, n_52, k_52, fun b hb => s_52 b (fun q => hb (Or.inr q))⟩
          refine r_aload (pc := 55) dX2_readSteps_55 rfl (by first | rfl | exact isRefV_rf _) ?_
          refine r_getf (pc := 57) dX2_readSteps_57 fX2_73 (by first | assumption | exact isI.gx (by assumption) | exact isI.gc (by assumption) | exact isW.gx (by assumption) | exact isW.gF (by assumption) | exact isW.gT (by assumption) (by omega) | exact isW.gS (by assumption) (by omega) | exact isW.gK (by assumption) (by omega) | exact isW.g1 (by assumption) | exact isW.g2 (by assumption) | exact isW.g3 (by assumption) | exact isI.gx (isW.i0 (by assumption)) | exact isI.gc (isW.i0 (by assumption)) | exact isI.gx (isW.i1 (by assumption)) | exact isI.gc (isW.i1 (by assumption)) | exact isI.gx (isW.i2 (by assumption)) | exact isI.gc (isW.i2 (by assumption)) | exact isI.gx (isW.i3 (by assumption)) | exact isI.gc (isW.i3 (by assumption)) | exact isI.gx (isW.i4 (by assumption)) | exact isI.gc (isW.i4 (by assumption)) | exact isI.gx (isW.i5 (by assumption)) | exact isI.gc (isW.i5 (by assumption)) | exact isR.gx (by assumption) | exact isRd.gx (by assumption) | exact isSp.gx (by assumption) | exact isI.gx (isR.i (by assumption)) | exact isI.gx (isRd.i (by assumption)) | exact isI.gc (isRd.i (by assumption)) | exact isI.gx (isSp.i (by assumption)) | exact isW.gx (isR.w (by assumption)) | exact isW.gF (isR.w (by assumption)) | fail "no such object") (by rfl) ?_
          refine r_astore (pc := 60) dX2_readSteps_60 (Nat.le_of_ble_eq_true rfl) (by first | rfl | exact isRefV_rf _) ?_
          dsimp only [lsSt, List.set, mLs, mEnt]
          refine rj_iinc (pc := 62) dX2_readSteps_62 (Nat.le_of_ble_eq_true rfl) rfl ?_
          dsimp only [lsSt, List.set, mLs, mEnt]
          refine r_goto (pc := 65) (tgt := 13) dX2_readSteps_65 (by decide) ?_
          rw [show (t : Int) + 1 = ((t + 1 : Nat) : Int) by omega]
          refine ih (nn + 1) _ (kk + 1) p2 o2 h_41.2.1 (t + 1) h_52 u1 u3 u2 u4 u5 u7 (fun g => (ub g).trans (hoo g)) (by omega) D_52 F_52 (by omega) ?_ (by omega) (by omega) (by omega)
          have ag : ∀ b, h0.2.1 ≤ b → b < h1.2.1 → ¬ b = l9 → hGet h_52 b = hGet h1 b := fun b b1 b2 b3 => (s_52 b b3).trans ((F_49.2.2.2 b (by omega) (by unfold dBlk; omega)).trans (hS_41.2.2.2 b (by unfold dBlk; omega)))
          refine sgL_a kk o0 h0.2.1 l9 h1.2.1 p0 p1 o1 sg ag (fun kd2 num2 vl2 y2 inn2 g => ?_) (by have := here_c (sr := f) (len := z) (a := (p1 : Int)) (c := 59) (by omega) (by rw [← hereC_f (by omega) hz.2]; assumption) (by decide); exact this) (by omega) (by omega) ?_
          · rw [sn] at g
            have e6 : stO kd num vl y inn none = stO kd2 num2 vl2 y2 inn2 none := Option.some.inj g
            have g6 : hGet h_52 l9 = some (stO kd num vl y inn (some h_41.2.1)) := o_52
            rw [g6]
            exact congrArg some (stO_nx e6)
          · rw [n_52]
            exact stK_c (Nat.le_refl _) (fun b b1 b2 => s_52 b (by omega)) (fun b q r b1 b2 => clX_c (Nat.le_refl _) (fun c c1 c2 => s_52 c (by omega)) b2) (fun kd3 num3 vl3 y3 inn3 g => (s_52 h_41.2.1 (by omega)).trans g) u9
        · skip
          refine r_putf (pc := 52) dX2_readSteps_52 fX2_73 o_49 (by omega) (by first | rfl | exact narrow_rf _ _) (by first | rfl | exact fits_rf _ _) (Nat.le_of_ble_eq_true rfl) ?_
          dsimp only [List.set]
          refine rg_gen (fun h_52 o_52 s_52 l_52 n_52 k_52 => ?_)
          have D_52 := D_49.keep2 l_52 (fun b hb => s_52 b (by unfold dBlk at hb; omega))
          have F_52 : FrR a h0 h_52 := ((F.tr (FrR.sm hS_41)).tr F_49).st (st := l9) l1.1 ⟨l_52, n_52, k_52, fun b hb => s_52 b (fun q => hb (Or.inr q))⟩
          refine r_aload (pc := 55) dX2_readSteps_55 rfl (by first | rfl | exact isRefV_rf _) ?_
          refine r_getf (pc := 57) dX2_readSteps_57 fX2_73 (by first | assumption | exact isI.gx (by assumption) | exact isI.gc (by assumption) | exact isW.gx (by assumption) | exact isW.gF (by assumption) | exact isW.gT (by assumption) (by omega) | exact isW.gS (by assumption) (by omega) | exact isW.gK (by assumption) (by omega) | exact isW.g1 (by assumption) | exact isW.g2 (by assumption) | exact isW.g3 (by assumption) | exact isI.gx (isW.i0 (by assumption)) | exact isI.gc (isW.i0 (by assumption)) | exact isI.gx (isW.i1 (by assumption)) | exact isI.gc (isW.i1 (by assumption)) | exact isI.gx (isW.i2 (by assumption)) | exact isI.gc (isW.i2 (by assumption)) | exact isI.gx (isW.i3 (by assumption)) | exact isI.gc (isW.i3 (by assumption)) | exact isI.gx (isW.i4 (by assumption)) | exact isI.gc (isW.i4 (by assumption)) | exact isI.gx (isW.i5 (by assumption)) | exact isI.gc (isW.i5 (by assumption)) | exact isR.gx (by assumption) | exact isRd.gx (by assumption) | exact isSp.gx (by assumption) | exact isI.gx (isR.i (by assumption)) | exact isI.gx (isRd.i (by assumption)) | exact isI.gc (isRd.i (by assumption)) | exact isI.gx (isSp.i (by assumption)) | exact isW.gx (isR.w (by assumption)) | exact isW.gF (isR.w (by assumption)) | fail "no such object") (by rfl) ?_
          refine r_astore (pc := 60) dX2_readSteps_60 (Nat.le_of_ble_eq_true rfl) (by first | rfl | exact isRefV_rf _) ?_
          dsimp only [lsSt, List.set, mLs, mEnt]
          refine rj_iinc (pc := 62) dX2_readSteps_62 (Nat.le_of_ble_eq_true rfl) rfl ?_
          dsimp only [lsSt, List.set, mLs, mEnt]
          refine r_goto (pc := 65) (tgt := 13) dX2_readSteps_65 (by decide) ?_
          have fe := ftE_F w4 w5
          refine (rt_fail (G := G) (l := l) (3 * n + 4) (h := h_52) (s := (P_9, E_9)) (o := o_9) (br := (w : Int)) (en := en) (r0 := some h0.2.1) (rr := none) (t := (t : Int) + 1) D_52 w1 w2 hz hf hen fe.1 ⟨by omega, by omega⟩).mono (fun v h9 g => ?_)
          obtain ⟨g1, g2, g3⟩ := g
          rw [fe.2] at g2
          rw [stepsL_n (fun g => by rw [u1] at g; exact absurd g.1 (by decide))]
          have nf : ¬ (stepN f z n w it false (advF r.2)).1 = true := by rw [u1]; decide
          refine ⟨some h0.2.1, g1, F_52.tr (FrR.sm g3), Or.inr ⟨fun g => nf g.1, fun g => absurd g nf, _, o_9, ?_, ?_, w2, g2, ?_⟩⟩
          · show _ = (if (stepN f z n w it false (advF r.2)).1 = true then _ else (stepN f z n w it false (advF r.2)).2.2.1)
            rw [if_neg (by rw [u1]; decide)]
          · obtain ⟨⟨wa, wb⟩, wc, wd⟩ := w1
            rcases w5 with ⟨x1, x2⟩ | ⟨x1, x2, -⟩
            · dsimp only at wd; omega
            · dsimp only at wa wb; omega
          · have := g3.2.1
            omega
        · skip
          refine r_putf (pc := 52) dX2_readSteps_52 fX2_73 o_49 (by omega) (by first | rfl | exact narrow_rf _ _) (by first | rfl | exact fits_rf _ _) (Nat.le_of_ble_eq_true rfl) ?_
          dsimp only [List.set]
          refine rg_gen (fun h_52 o_52 s_52 l_52 n_52 k_52 => ?_)
          have D_52 := D_49.keep2 l_52 (fun b hb => s_52 b (by unfold dBlk at hb; omega))
          have F_52 : FrR a h0 h_52 := ((F.tr (FrR.sm hS_41)).tr F_49).st (st := l9) l1.1 ⟨l_52, n_52, k_52, fun b hb => s_52 b (fun q => hb (Or.inr q))⟩
          refine r_aload (pc := 55) dX2_readSteps_55 rfl (by first | rfl | exact isRefV_rf _) ?_
          refine r_getf (pc := 57) dX2_readSteps_57 fX2_73 (by first | assumption | exact isI.gx (by assumption) | exact isI.gc (by assumption) | exact isW.gx (by assumption) | exact isW.gF (by assumption) | exact isW.gT (by assumption) (by omega) | exact isW.gS (by assumption) (by omega) | exact isW.gK (by assumption) (by omega) | exact isW.g1 (by assumption) | exact isW.g2 (by assumption) | exact isW.g3 (by assumption) | exact isI.gx (isW.i0 (by assumption)) | exact isI.gc (isW.i0 (by assumption)) | exact isI.gx (isW.i1 (by assumption)) | exact isI.gc (isW.i1 (by assumption)) | exact isI.gx (isW.i2 (by assumption)) | exact isI.gc (isW.i2 (by assumption)) | exact isI.gx (isW.i3 (by assumption)) | exact isI.gc (isW.i3 (by assumption)) | exact isI.gx (isW.i4 (by assumption)) | exact isI.gc (isW.i4 (by assumption)) | exact isI.gx (isW.i5 (by assumption)) | exact isI.gc (isW.i5 (by assumption)) | exact isR.gx (by assumption) | exact isRd.gx (by assumption) | exact isSp.gx (by assumption) | exact isI.gx (isR.i (by assumption)) | exact isI.gx (isRd.i (by assumption)) | exact isI.gc (isRd.i (by assumption)) | exact isI.gx (isSp.i (by assumption)) | exact isW.gx (isR.w (by assumption)) | exact isW.gF (isR.w (by assumption)) | fail "no such object") (by rfl) ?_
          refine r_astore (pc := 60) dX2_readSteps_60 (Nat.le_of_ble_eq_true rfl) (by first | rfl | exact isRefV_rf _) ?_
          dsimp only [lsSt, List.set, mLs, mEnt]
          refine rj_iinc (pc := 62) dX2_readSteps_62 (Nat.le_of_ble_eq_true rfl) rfl ?_
          dsimp only [lsSt, List.set, mLs, mEnt]
          refine r_goto (pc := 65) (tgt := 13) dX2_readSteps_65 (by decide) ?_
          have fe := ftE_F w4 w5
          refine (rt_fail (G := G) (l := l) (3 * n + 4) (h := h_52) (s := (P_9, E_9)) (o := o_9) (br := (w : Int)) (en := en) (r0 := some h0.2.1) (rr := some b_9) (t := (t : Int) + 1) D_52 w1 w2 hz hf hen fe.1 ⟨by omega, by omega⟩).mono (fun v h9 g => ?_)
          obtain ⟨g1, g2, g3⟩ := g
          rw [fe.2] at g2
          rw [stepsL_n (fun g => by rw [u1] at g; exact absurd g.1 (by decide))]
          have nf : ¬ (stepN f z n w it false (advF r.2)).1 = true := by rw [u1]; decide
          refine ⟨some h0.2.1, g1, F_52.tr (FrR.sm g3), Or.inr ⟨fun g => nf g.1, fun g => absurd g nf, _, o_9, ?_, ?_, w2, g2, ?_⟩⟩
          · show _ = (if (stepN f z n w it false (advF r.2)).1 = true then _ else (stepN f z n w it false (advF r.2)).2.2.1)
            rw [if_neg (by rw [u1]; decide)]
          · obtain ⟨⟨wa, wb⟩, wc, wd⟩ := w1
            rcases w5 with ⟨x1, x2⟩ | ⟨x1, x2, -⟩
            · dsimp only at wd; omega
            · dsimp only at wa wb; omega
          · have := g3.2.1
            omega
set_option maxHeartbeats 4000000 in
set_option maxRecDepth 100000 in
theorem rt_all {G : mG} {l : Launch} {n : Nat} {z : Int} {f : Nat → Int} {a w : Nat} {it : Bool} {h0 : mH} {o0 p0 : Nat} {en : Int} (hR : RDN G l z f a n) (hz : 0 ≤ z ∧ z ≤ 120) (hf : bytesOk f) (hen : en = 125 ∨ en = -1) (ha : a + 3 ≤ h0.2.1) (hw : w ≤ 3) (hit : it = true ↔ w = 0 ∧ (false : Bool) = false) (hn : 2 * (3 - w) + 2 ≤ n) {q : PS} (q1 : q.1 = p0) (q2 : q.2.1 = -1) (q3 : q.2.2.2.2 = o0) (hp0 : (p0 : Int) ≤ z) (ho0 : o0 ≤ p0) (hD : isRd h0 a p0 (-1) o0 z f) : RUNM G l (3 * n + 4 + 1) mX2_readSteps [.ref a, .int (J (w : Int)), .int (J en)] h0 (fun v h' => rtPost z f a it o0 p0 en (stepsR f z (stepN f z n w it false) q) h0 v h') := by
  refine RUNM.of (by decide +kernel) (Nat.le_of_ble_eq_true rfl) ?_
  refine r_aload_n (pc := 0) dX2_readSteps_0 rfl (by first | rfl | exact isRefV_rf _) ?_
  refine r_iload_n (pc := 1) dX2_readSteps_1 rfl ?_
  refine rj_iconst (pc := 2) dX2_readSteps_2 ?_
  refine r_callV2 (pc := 3) dX2_readSteps_3 qX2_readStep kX2_69 vX2_readStep (by first | assumption | exact isI.gx (by assumption) | exact isI.gc (by assumption) | exact isW.gx (by assumption) | exact isW.gF (by assumption) | exact isW.gT (by assumption) (by omega) | exact isW.gS (by assumption) (by omega) | exact isW.gK (by assumption) (by omega) | exact isW.g1 (by assumption) | exact isW.g2 (by assumption) | exact isW.g3 (by assumption) | exact isI.gx (isW.i0 (by assumption)) | exact isI.gc (isW.i0 (by assumption)) | exact isI.gx (isW.i1 (by assumption)) | exact isI.gc (isW.i1 (by assumption)) | exact isI.gx (isW.i2 (by assumption)) | exact isI.gc (isW.i2 (by assumption)) | exact isI.gx (isW.i3 (by assumption)) | exact isI.gc (isW.i3 (by assumption)) | exact isI.gx (isW.i4 (by assumption)) | exact isI.gc (isW.i4 (by assumption)) | exact isI.gx (isW.i5 (by assumption)) | exact isI.gc (isW.i5 (by assumption)) | exact isR.gx (by assumption) | exact isRd.gx (by assumption) | exact isSp.gx (by assumption) | exact isI.gx (isR.i (by assumption)) | exact isI.gx (isRd.i (by assumption)) | exact isI.gc (isRd.i (by assumption)) | exact isI.gx (isSp.i (by assumption)) | exact isW.gx (isR.w (by assumption)) | exact isW.gF (isR.w (by assumption)) | fail "no such object") rfl rfl (Nat.le_of_ble_eq_true rfl) (hR w it false 0 h0 p0 o0 q ⟨fun g => (by cases g), fun _ => rfl⟩ hw hit hn q1 q2 q3 hp0 ho0 hD ha) (fun v_3 h_3 q_3 => ?_)
  obtain ⟨r_3, rfl, F_3, Z_3⟩ := q_3
  have z7 := F_3.2.1
  replace Z_3 := or3 (r := r_3) Z_3
  rcases Z_3 with ⟨u1, u2, rfl, p2, o2, u3, u4, D_3, u5, u6, u7, ub, u8, u9⟩ | ⟨rfl, u1, P_9, E_9, o_9, D_3, w1, w2, w3, w4, w5⟩ | ⟨b_9, rfl, u1, P_9, E_9, o_9, D_3, w1, w2, w3, w4, w5⟩
  · skip
    refine r_astore_n (pc := 6) dX2_readSteps_6 (Nat.le_of_ble_eq_true rfl) (by first | rfl | exact isRefV_rf _) ?_
    dsimp only [lsSt, List.set, mLs, mEnt]
    refine r_aload_n (pc := 7) dX2_readSteps_7 rfl (by first | rfl | exact isRefV_rf _) ?_
    refine r_astore (pc := 8) dX2_readSteps_8 (Nat.le_of_ble_eq_true rfl) (by first | rfl | exact isRefV_rf _) ?_
    dsimp only [lsSt, List.set, mLs, mEnt]
    refine rj_iconst (pc := 10) dX2_readSteps_10 ?_
    refine r_istore (pc := 11) dX2_readSteps_11 (Nat.le_of_ble_eq_true rfl) ?_
    dsimp only [lsSt, List.set, mLs, mEnt]
    have y := rt_loop (G := G) (l := l) hR hz hf hen ha hw hit hn (o0 := o0) (p0 := p0) (z.toNat + 1) 1 (stepN f z n w it false q) 0 p2 o2 h0.2.1 1 h_3 u1 u3 u2 u4 u5 u7 ub u6 D_3 F_3 (by omega) ⟨rfl, u9⟩ (Nat.le_refl _) (by omega) (by omega)
    exact y
  · skip
    refine r_astore_n (pc := 6) dX2_readSteps_6 (Nat.le_of_ble_eq_true rfl) (by first | rfl | exact isRefV_rf _) ?_
    dsimp only [lsSt, List.set, mLs, mEnt]
    refine r_aload_n (pc := 7) dX2_readSteps_7 rfl (by first | rfl | exact isRefV_rf _) ?_
    refine r_astore (pc := 8) dX2_readSteps_8 (Nat.le_of_ble_eq_true rfl) (by first | rfl | exact isRefV_rf _) ?_
    dsimp only [lsSt, List.set, mLs, mEnt]
    refine rj_iconst (pc := 10) dX2_readSteps_10 ?_
    refine r_istore (pc := 11) dX2_readSteps_11 (Nat.le_of_ble_eq_true rfl) ?_
    dsimp only [lsSt, List.set, mLs, mEnt]
    have fe := ftE_F w4 w5
    refine (rt_fail (G := G) (l := l) (3 * n + 4) (h := h_3) (s := (P_9, E_9)) (o := o_9) (br := (w : Int)) (en := en) (r0 := none) (rr := none) (t := 1) D_3 w1 w2 hz hf hen fe.1 ⟨by omega, by omega⟩).mono (fun v h9 g => ?_)
    obtain ⟨g1, g2, g3⟩ := g
    rw [fe.2] at g2
    have eR : stepsR f z (stepN f z n w it false) q = setN (stepN f z n w it false q, 1) := by
      unfold stepsR
      rw [stepsL_n (fun g => by rw [u1] at g; exact absurd g.1 (by decide))]
    rw [eR]
    have nf : ¬ (stepN f z n w it false q).1 = true := by rw [u1]; decide
    refine ⟨none, g1, F_3.tr (FrR.sm g3), Or.inr ⟨fun g => nf g.1, fun g => absurd g nf, _, o_9, ?_, ?_, w2, g2, ?_⟩⟩
    · show _ = (if (stepN f z n w it false q).1 = true then _ else (stepN f z n w it false q).2.2.1)
      rw [if_neg (by rw [u1]; decide)]
    · obtain ⟨⟨wa, wb⟩, wc, wd⟩ := w1
      rcases w5 with ⟨x1, x2⟩ | ⟨x1, x2, -⟩
      · dsimp only at wd; omega
      · dsimp only at wa wb; omega
    · have := g3.2.1
      omega
  · skip
    refine r_astore_n (pc := 6) dX2_readSteps_6 (Nat.le_of_ble_eq_true rfl) (by first | rfl | exact isRefV_rf _) ?_
    dsimp only [lsSt, List.set, mLs, mEnt]
    refine r_aload_n (pc := 7) dX2_readSteps_7 rfl (by first | rfl | exact isRefV_rf _) ?_
    refine r_astore (pc := 8) dX2_readSteps_8 (Nat.le_of_ble_eq_true rfl) (by first | rfl | exact isRefV_rf _) ?_
    dsimp only [lsSt, List.set, mLs, mEnt]
    refine rj_iconst (pc := 10) dX2_readSteps_10 ?_
    refine r_istore (pc := 11) dX2_readSteps_11 (Nat.le_of_ble_eq_true rfl) ?_
    dsimp only [lsSt, List.set, mLs, mEnt]
    have fe := ftE_F w4 w5
    refine (rt_fail (G := G) (l := l) (3 * n + 4) (h := h_3) (s := (P_9, E_9)) (o := o_9) (br := (w : Int)) (en := en) (r0 := some b_9) (rr := some b_9) (t := 1) D_3 w1 w2 hz hf hen fe.1 ⟨by omega, by omega⟩).mono (fun v h9 g => ?_)
    obtain ⟨g1, g2, g3⟩ := g
    rw [fe.2] at g2
    have eR : stepsR f z (stepN f z n w it false) q = setN (stepN f z n w it false q, 1) := by
      unfold stepsR
      rw [stepsL_n (fun g => by rw [u1] at g; exact absurd g.1 (by decide))]
    rw [eR]
    have nf : ¬ (stepN f z n w it false q).1 = true := by rw [u1]; decide
    refine ⟨some b_9, g1, F_3.tr (FrR.sm g3), Or.inr ⟨fun g => nf g.1, fun g => absurd g nf, _, o_9, ?_, ?_, w2, g2, ?_⟩⟩
    · show _ = (if (stepN f z n w it false q).1 = true then _ else (stepN f z n w it false q).2.2.1)
      rw [if_neg (by rw [u1]; decide)]
    · obtain ⟨⟨wa, wb⟩, wc, wd⟩ := w1
      rcases w5 with ⟨x1, x2⟩ | ⟨x1, x2, -⟩
      · dsimp only at wd; omega
      · dsimp only at wa wb; omega
    · have := g3.2.1
      omega
set_option maxHeartbeats 4000000 in
set_option maxRecDepth 100000 in
theorem rt_idle {G : mG} {l : Launch} (d : Nat) {h : mH} {a : Nat} {s : Int × Int} {o z : Int} {f : Nat → Int} (hD : isRd h a s.1 s.2 o z f) (hs : rgS z s) (ho1 : -1 ≤ o ∧ o ≤ 200) (hz : 0 ≤ z ∧ z ≤ 120) (hf : bytesOk f) (hP : s.1 = z) (hE : 0 ≤ s.2) {br en : Int} (hbr : InR br) (hen : en = 125 ∨ en = -1) : RUNM G l (d + 3) mX2_readSteps [.ref a, .int (J br), .int (J en)] h (fun v h' => v = some .null ∧ isRd h' a z s.2 o z f ∧ Same (dBlk a) h h') := by
  obtain ⟨⟨h1, h2⟩, h3, h4⟩ := hs
  have hf' : ∀ q, InR (f q) := fun q => by have := hf q; exact ⟨by omega, by omega⟩
  have hp : InR s.1 := ⟨by omega, by omega⟩
  have he : InR s.2 := ⟨by omega, by omega⟩
  have hz' : InR z := ⟨by omega, by omega⟩
  have hh : -1 ≤ hereC s.1 z f := by
    unfold hereC; split
    · have := hf s.1.toNat; omega
    · omega
  have ho : InR o := ⟨by omega, by omega⟩
  refine RUNM.of (by decide +kernel) (Nat.le_of_ble_eq_true rfl) ?_
  refine r_aload_n (pc := 0) dX2_readSteps_0 rfl (by first | rfl | exact isRefV_rf _) ?_
  refine r_iload_n (pc := 1) dX2_readSteps_1 rfl ?_
  refine rj_iconst (pc := 2) dX2_readSteps_2 ?_
  refine r_callV2 (pc := 3) dX2_readSteps_3 qX2_readStep kX2_69 vX2_readStep (by first | assumption | exact isI.gx (by assumption) | exact isI.gc (by assumption) | exact isW.gx (by assumption) | exact isW.gF (by assumption) | exact isW.gT (by assumption) (by omega) | exact isW.gS (by assumption) (by omega) | exact isW.gK (by assumption) (by omega) | exact isW.g1 (by assumption) | exact isW.g2 (by assumption) | exact isW.g3 (by assumption) | exact isI.gx (isW.i0 (by assumption)) | exact isI.gc (isW.i0 (by assumption)) | exact isI.gx (isW.i1 (by assumption)) | exact isI.gc (isW.i1 (by assumption)) | exact isI.gx (isW.i2 (by assumption)) | exact isI.gc (isW.i2 (by assumption)) | exact isI.gx (isW.i3 (by assumption)) | exact isI.gc (isW.i3 (by assumption)) | exact isI.gx (isW.i4 (by assumption)) | exact isI.gc (isW.i4 (by assumption)) | exact isI.gx (isW.i5 (by assumption)) | exact isI.gc (isW.i5 (by assumption)) | exact isR.gx (by assumption) | exact isRd.gx (by assumption) | exact isSp.gx (by assumption) | exact isI.gx (isR.i (by assumption)) | exact isI.gx (isRd.i (by assumption)) | exact isI.gc (isRd.i (by assumption)) | exact isI.gx (isSp.i (by assumption)) | exact isW.gx (isR.w (by assumption)) | exact isW.gF (isR.w (by assumption)) | fail "no such object") rfl rfl (Nat.le_of_ble_eq_true rfl) (rd_stepNot _ hD hp he ho hz' hf' (br := br) (gd := 0) hbr ⟨by decide, by decide⟩ (by rw [hP, hereC_e]; unfold mbP; omega)) (fun v_3 h_3 q_3 => ?_)
  obtain ⟨rfl, D_3, S_3⟩ := q_3
  rw [ftE_s hE] at D_3
  refine r_astore_n (pc := 6) dX2_readSteps_6 (Nat.le_of_ble_eq_true rfl) (by first | rfl | exact isRefV_rf _) ?_
  dsimp only [lsSt, List.set, mLs, mEnt]
  refine r_aload_n (pc := 7) dX2_readSteps_7 rfl (by first | rfl | exact isRefV_rf _) ?_
  refine r_astore (pc := 8) dX2_readSteps_8 (Nat.le_of_ble_eq_true rfl) (by first | rfl | exact isRefV_rf _) ?_
  dsimp only [lsSt, List.set, mLs, mEnt]
  refine rj_iconst (pc := 10) dX2_readSteps_10 ?_
  refine r_istore (pc := 11) dX2_readSteps_11 (Nat.le_of_ble_eq_true rfl) ?_
  dsimp only [lsSt, List.set, mLs, mEnt]
  refine (rt_fail (G := G) (l := l) (d + 2) (h := h_3) (s := (z, s.2)) (o := o) (br := br) (en := en) (r0 := none) (rr := none) (t := 1) D_3 ⟨⟨by dsimp only; omega, Int.le_refl _⟩, h3, h4⟩ ho1 hz hf hen (Or.inl ⟨rfl, hE⟩) ⟨by decide, by decide⟩).mono (fun v h9 g => ?_)
  obtain ⟨g1, g2, g3⟩ := g
  dsimp only at g2
  rw [ftE_s hE] at g2
  exact ⟨g1, g2, S_3.trans g3⟩
def closR (sr : Nat → Int) (len : Int) (steps : PS → Bool × PS) (w : Int) (q1 : PS) : Bool × PS := if hereF sr len q1.1 = 123 then (if 2 < w then (false, failF q1.1 q1) else andR (steps (advF q1)) (gR sr len 125)) else (true, q1)
def rcPost (z : Int) (f : Nat → Int) (a : Nat) (o p : Nat) (R : Bool × PS) (h : mH) (v : Option Value) (h' : mH) : Prop :=
  ∃ r : Option Nat, v = some (va_rf r) ∧ FrR a h h' ∧
  ((R.1 = true ∧ R.2.2.1 = -1 ∧ R.2.2.2.2.2 = o ∧ ∃ p' : Nat, R.2.1 = p' ∧ isRd h' a p' (-1) o z f ∧ (p' : Int) ≤ z ∧ p ≤ p' ∧ h'.2.1 + p ≤ h.2.1 + p' ∧ ((r = none ∧ p' = p ∧ ¬ clip f z p = 123) ∨ (r = some h.2.1 ∧ clip f z p = 123 ∧ ∃ r' : Nat, p' = r' + 1 ∧ clip f z r' = 125 ∧ p + 1 ≤ r' ∧ clX (hGet h') (clip f z) h.2.1 h'.2.1 (p + 1) r'))) ∨
   (R.1 = false ∧ rdF z f a p R h h'))
theorem failF_v {p : Int} {q : PS} (h : q.2.1 = -1) : (failF p q).2.1 = p := by unfold failF; dsimp only; rw [h, if_pos (by decide)]
set_option maxHeartbeats 4000000 in
set_option maxRecDepth 100000 in
theorem rc_all {G : mG} {l : Launch} {n : Nat} {z : Int} {f : Nat → Int} {a w : Nat} {h : mH} {o p : Nat} (hR : RDN G l z f a n) (hz : 0 ≤ z ∧ z ≤ 120) (hf : bytesOk f) (ha : a + 3 ≤ h.2.1) (hw : w ≤ 3) (hn : w ≤ 2 → 2 * (3 - (w + 1)) + 2 ≤ n) {q : PS} (q1 : q.1 = p) (q2 : q.2.1 = -1) (q3 : q.2.2.2.2 = o) (hp1 : (p : Int) ≤ z) (ho1 : o ≤ p) (hD : isRd h a p (-1) o z f) : RUNM G l (3 * n + 4 + 2) mX2_readCloser [.ref a, .int (J (w : Int))] h (fun v h' => rcPost z f a o p (closR f z (stepsR f z (stepN f z n ((w : Int) + 1) false false)) w q) h v h') := by
  have hf' : ∀ q, InR (f q) := fun q => by have := hf q; exact ⟨by omega, by omega⟩
  have hp : InR (p : Int) := ⟨by omega, by omega⟩
  have he : InR (-1) := ⟨by decide, by decide⟩
  have hz' : InR z := ⟨by omega, by omega⟩
  have ho : InR (o : Int) := ⟨by omega, by omega⟩
  have hF1 : hereC p z f = hereF f z q.1 := by rw [q1]; exact hereC_f (by omega) hz.2
  have nopar : ¬ hereC p z f = 123 → rcPost z f a o p (closR f z (stepsR f z (stepN f z n ((w : Int) + 1) false false)) w q) h (some .null) h := fun c => by
    have eR : closR f z (stepsR f z (stepN f z n ((w : Int) + 1) false false)) w q = (true, q) := by unfold closR; rw [if_neg (by rw [← hF1]; exact c)]
    rw [eR]
    refine ⟨none, rfl, FrR.rf, Or.inl ⟨rfl, q2, q3, p, q1, hD, hp1, Nat.le_refl _, Nat.le_refl _, Or.inl ⟨rfl, rfl, ?_⟩⟩⟩
    have := here_n (sr := f) (len := z) (a := (p : Int)) (c := 123) (by omega) (by rw [← hereC_f (by omega) hz.2]; exact c) (by decide)
    exact this
  have late : hereC p z f = 123 → 3 ≤ w → rcPost z f a o p (closR f z (stepsR f z (stepN f z n ((w : Int) + 1) false false)) w q) h (some .null) h := fun c cw => by
    have eR : closR f z (stepsR f z (stepN f z n ((w : Int) + 1) false false)) w q = (false, failF q.1 q) := by unfold closR; rw [if_pos (by rw [← hF1]; exact c), if_pos (by omega)]
    rw [eR]
    have e2 := failF_v (p := q.1) q2
    exact ⟨none, rfl, FrR.rf, Or.inr ⟨rfl, p, -1, o, hD, ⟨⟨by dsimp only; omega, hp1⟩, by dsimp only; omega, by dsimp only; omega⟩, ⟨by omega, by omega⟩, by omega, by rw [e2]; omega, Or.inr ⟨by rw [e2]; exact q1.symm, rfl, c⟩⟩⟩
  refine RUNM.of (by decide +kernel) (Nat.le_of_ble_eq_true rfl) ?_
  refine r_aload_n (pc := 0) dX2_readCloser_0 rfl (by first | rfl | exact isRefV_rf _) ?_
  refine r_callV0 (pc := 1) dX2_readCloser_1 qX2_here kX2_34 vX2_here (by first | assumption | exact isI.gx (by assumption) | exact isI.gc (by assumption) | exact isW.gx (by assumption) | exact isW.gF (by assumption) | exact isW.gT (by assumption) (by omega) | exact isW.gS (by assumption) (by omega) | exact isW.gK (by assumption) (by omega) | exact isW.g1 (by assumption) | exact isW.g2 (by assumption) | exact isW.g3 (by assumption) | exact isI.gx (isW.i0 (by assumption)) | exact isI.gc (isW.i0 (by assumption)) | exact isI.gx (isW.i1 (by assumption)) | exact isI.gc (isW.i1 (by assumption)) | exact isI.gx (isW.i2 (by assumption)) | exact isI.gc (isW.i2 (by assumption)) | exact isI.gx (isW.i3 (by assumption)) | exact isI.gc (isW.i3 (by assumption)) | exact isI.gx (isW.i4 (by assumption)) | exact isI.gc (isW.i4 (by assumption)) | exact isI.gx (isW.i5 (by assumption)) | exact isI.gc (isW.i5 (by assumption)) | exact isR.gx (by assumption) | exact isRd.gx (by assumption) | exact isSp.gx (by assumption) | exact isI.gx (isR.i (by assumption)) | exact isI.gx (isRd.i (by assumption)) | exact isI.gc (isRd.i (by assumption)) | exact isI.gx (isSp.i (by assumption)) | exact isW.gx (isR.w (by assumption)) | exact isW.gF (isR.w (by assumption)) | fail "no such object") rfl rfl (Nat.le_of_ble_eq_true rfl) (cd_here _ hD hp he ho hz' hf') (fun v_1 h_1 q_1 => ?_)
  obtain ⟨rfl, e_1⟩ := q_1
  have e_1 := e_1.symm
  subst e_1
  have rh := hereC_r (p := (p : Int)) (z := z) hf'
  refine rj_bipush (pc := 4) dX2_readCloser_4 (by decide +kernel) ?_
  refine rj_icmp_ne (pc := 6) (tgt := 14) dX2_readCloser_6 (by decide) (by first | exact b01_r | exact bz_r | omega | (constructor <;> omega) | apply_assumption | (apply atF_r; assumption) | fail "no range") (by first | exact b01_r | exact bz_r | omega | (constructor <;> omega) | apply_assumption | (apply atF_r; assumption) | fail "no range") (fun c_6 => ?_) (fun c_6 => ?_)
  · refine r_null (pc := 14) dX2_readCloser_14 ?_
    refine r_areturn (pc := 15) _ dX2_readCloser_15 rfl (Or.inl ⟨_, rfl⟩) (by first | rfl | exact isRefV_rf _) ?_
    first | exact nopar (by assumption) | exact late (by omega) (by omega)
  · refine r_iload_n (pc := 9) dX2_readCloser_9 rfl ?_
    refine rj_iconst (pc := 10) dX2_readCloser_10 ?_
    refine rj_icmp_lt (pc := 11) (tgt := 16) dX2_readCloser_11 (by decide) (by first | exact b01_r | exact bz_r | omega | (constructor <;> omega) | apply_assumption | (apply atF_r; assumption) | fail "no range") (by first | exact b01_r | exact bz_r | omega | (constructor <;> omega) | apply_assumption | (apply atF_r; assumption) | fail "no range") (fun c_11 => ?_) (fun c_11 => ?_)
    · refine r_aload_n (pc := 16) dX2_readCloser_16 rfl (by first | rfl | exact isRefV_rf _) ?_
      refine r_dup (pc := 17) dX2_readCloser_17 (by first | rfl | (cases ‹Option Nat› <;> rfl)) ?_
      refine r_getf (pc := 18) dX2_readCloser_18 fX2_53 (by first | assumption | exact isI.gx (by assumption) | exact isI.gc (by assumption) | exact isW.gx (by assumption) | exact isW.gF (by assumption) | exact isW.gT (by assumption) (by omega) | exact isW.gS (by assumption) (by omega) | exact isW.gK (by assumption) (by omega) | exact isW.g1 (by assumption) | exact isW.g2 (by assumption) | exact isW.g3 (by assumption) | exact isI.gx (isW.i0 (by assumption)) | exact isI.gc (isW.i0 (by assumption)) | exact isI.gx (isW.i1 (by assumption)) | exact isI.gc (isW.i1 (by assumption)) | exact isI.gx (isW.i2 (by assumption)) | exact isI.gc (isW.i2 (by assumption)) | exact isI.gx (isW.i3 (by assumption)) | exact isI.gc (isW.i3 (by assumption)) | exact isI.gx (isW.i4 (by assumption)) | exact isI.gc (isW.i4 (by assumption)) | exact isI.gx (isW.i5 (by assumption)) | exact isI.gc (isW.i5 (by assumption)) | exact isR.gx (by assumption) | exact isRd.gx (by assumption) | exact isSp.gx (by assumption) | exact isI.gx (isR.i (by assumption)) | exact isI.gx (isRd.i (by assumption)) | exact isI.gc (isRd.i (by assumption)) | exact isI.gx (isSp.i (by assumption)) | exact isW.gx (isR.w (by assumption)) | exact isW.gF (isR.w (by assumption)) | fail "no such object") (by rfl) ?_
      refine rj_iconst (pc := 21) dX2_readCloser_21 ?_
      refine rj_iadd (pc := 22) dX2_readCloser_22 ?_
      refine rc_putD1 (pc := 23) dX2_readCloser_23 fX2_53 (by assumption) (fun h_23 hW_23 hS_23 => ?_)
      refine r_aload_n (pc := 26) dX2_readCloser_26 rfl (by first | rfl | exact isRefV_rf _) ?_
      refine r_iload_n (pc := 27) dX2_readCloser_27 rfl ?_
      refine rj_iconst (pc := 28) dX2_readCloser_28 ?_
      refine rj_iadd (pc := 29) dX2_readCloser_29 ?_
      refine rj_bipush (pc := 30) dX2_readCloser_30 (by decide +kernel) ?_
      have lt := hereC_lt (p := (p : Int)) (z := z) (f := f) (by omega)
      have z1 := hS_23.2.1
      rw [show (p : Int) + 1 = ((p + 1 : Nat) : Int) by omega] at hW_23
      rw [show (w : Int) + 1 = ((w + 1 : Nat) : Int) by omega]
      refine r_callV2 (pc := 32) dX2_readCloser_32 qX2_readSteps kX2_41 vX2_readSteps (by first | assumption | exact isI.gx (by assumption) | exact isI.gc (by assumption) | exact isW.gx (by assumption) | exact isW.gF (by assumption) | exact isW.gT (by assumption) (by omega) | exact isW.gS (by assumption) (by omega) | exact isW.gK (by assumption) (by omega) | exact isW.g1 (by assumption) | exact isW.g2 (by assumption) | exact isW.g3 (by assumption) | exact isI.gx (isW.i0 (by assumption)) | exact isI.gc (isW.i0 (by assumption)) | exact isI.gx (isW.i1 (by assumption)) | exact isI.gc (isW.i1 (by assumption)) | exact isI.gx (isW.i2 (by assumption)) | exact isI.gc (isW.i2 (by assumption)) | exact isI.gx (isW.i3 (by assumption)) | exact isI.gc (isW.i3 (by assumption)) | exact isI.gx (isW.i4 (by assumption)) | exact isI.gc (isW.i4 (by assumption)) | exact isI.gx (isW.i5 (by assumption)) | exact isI.gc (isW.i5 (by assumption)) | exact isR.gx (by assumption) | exact isRd.gx (by assumption) | exact isSp.gx (by assumption) | exact isI.gx (isR.i (by assumption)) | exact isI.gx (isRd.i (by assumption)) | exact isI.gc (isRd.i (by assumption)) | exact isI.gx (isSp.i (by assumption)) | exact isW.gx (isR.w (by assumption)) | exact isW.gF (isR.w (by assumption)) | fail "no such object") rfl rfl (Nat.le_of_ble_eq_true rfl) (rt_all (G := G) (l := l) (q := advF q) (p0 := p + 1) (o0 := o) (w := w + 1) (it := false) (en := 125) hR hz hf (Or.inl rfl) (by omega) (by omega) ⟨fun g => (by cases g), fun g => (by omega)⟩ (hn (by omega)) (by show q.1 + 1 = _; rw [q1]; omega) q2 q3 (by omega) (by omega) hW_23) (fun v_32 h_32 q_32 => ?_)
      obtain ⟨r_32, rfl, F_32, Z_32⟩ := q_32
      rw [show (((w + 1 : Nat) : Int)) = (w : Int) + 1 by omega] at Z_32 ⊢
      have eR : closR f z (stepsR f z (stepN f z n ((w : Int) + 1) false false)) w q = andR (stepsR f z (stepN f z n ((w : Int) + 1) false false) (advF q)) (gR f z 125) := by unfold closR; rw [if_pos (by rw [← hF1]; assumption), if_neg (by omega)]
      rw [eR]
      have c123 : clip f z p = 123 := by
        have := here_c (sr := f) (len := z) (a := (p : Int)) (c := 123) (by omega) (by rw [← hereC_f (by omega) hz.2]; assumption) (by decide)
        exact this
      rcases Z_32 with ⟨u1, u2, -, u3, rfl, p2, o2, u4, u5, D_32, u6, u7, u8, ub, uc, u9, N, u10⟩ | ⟨u1, un, E_3, o_3, u2, u3, u4, D_32, u5⟩
      · skip
        refine r_astore_n (pc := 35) dX2_readCloser_35 (Nat.le_of_ble_eq_true rfl) (by first | rfl | exact isRefV_rf _) ?_
        dsimp only [lsSt, List.set, mLs, mEnt]
        refine r_aload_n (pc := 36) dX2_readCloser_36 rfl (by first | rfl | exact isRefV_rf _) ?_
        refine rj_bipush (pc := 37) dX2_readCloser_37 (by decide +kernel) ?_
        refine r_callV1 (pc := 39) dX2_readCloser_39 qX2_expect kX2_38 vX2_expect (by first | assumption | exact isI.gx (by assumption) | exact isI.gc (by assumption) | exact isW.gx (by assumption) | exact isW.gF (by assumption) | exact isW.gT (by assumption) (by omega) | exact isW.gS (by assumption) (by omega) | exact isW.gK (by assumption) (by omega) | exact isW.g1 (by assumption) | exact isW.g2 (by assumption) | exact isW.g3 (by assumption) | exact isI.gx (isW.i0 (by assumption)) | exact isI.gc (isW.i0 (by assumption)) | exact isI.gx (isW.i1 (by assumption)) | exact isI.gc (isW.i1 (by assumption)) | exact isI.gx (isW.i2 (by assumption)) | exact isI.gc (isW.i2 (by assumption)) | exact isI.gx (isW.i3 (by assumption)) | exact isI.gc (isW.i3 (by assumption)) | exact isI.gx (isW.i4 (by assumption)) | exact isI.gc (isW.i4 (by assumption)) | exact isI.gx (isW.i5 (by assumption)) | exact isI.gc (isW.i5 (by assumption)) | exact isR.gx (by assumption) | exact isRd.gx (by assumption) | exact isSp.gx (by assumption) | exact isI.gx (isR.i (by assumption)) | exact isI.gx (isRd.i (by assumption)) | exact isI.gc (isRd.i (by assumption)) | exact isI.gx (isSp.i (by assumption)) | exact isW.gx (isR.w (by assumption)) | exact isW.gF (isR.w (by assumption)) | fail "no such object") rfl rfl (Nat.le_of_ble_eq_true rfl) (rm_exp _ (s := ((p2 : Int), -1)) D_32 ⟨⟨by dsimp only; omega, u6⟩, by dsimp only; omega, by dsimp only; omega⟩ ⟨by omega, by omega⟩ hz hf (k := 125) (by decide)) (fun v_39 h_39 q_39 => ?_)
        obtain ⟨rfl, D_39, S_39⟩ := q_39
        have eX : xpM z f 125 ((p2 : Int), -1) = ((p2 : Int) + 1, -1) := by unfold xpM; rw [if_pos (by rw [← u4]; exact u2)]
        rw [eX] at D_39
        refine r_aload_n (pc := 42) dX2_readCloser_42 rfl (by first | rfl | exact isRefV_rf _) ?_
        refine r_areturn (pc := 43) _ dX2_readCloser_43 rfl (Or.inl ⟨_, rfl⟩) (by first | rfl | exact isRefV_rf _) ?_
        have g := ok_exp (f := f) (c := 125) (q := (stepsR f z (stepN f z n ((w : Int) + 1) false false) (advF q)).2) (by rw [u4]; omega) hz.2 u3
        rw [u4] at g
        rw [andR_t u1]
        have sz := S_39.2.1
        rcases g with ⟨g1, g2, g3⟩ | ⟨g1, g2, g3⟩
        · rw [eX] at g2
          have g4 := congrArg Prod.fst g2
          dsimp only at g4
          refine ⟨some h_23.2.1, rfl, ((FrR.sm hS_23).tr F_32).tr (FrR.sm S_39), Or.inl ⟨g1, g3, ?_, p2 + 1, by rw [← g4]; omega, by rw [show ((p2 + 1 : Nat) : Int) = (p2 : Int) + 1 by omega]; rw [ub rfl] at D_39; exact D_39, ?_, by omega, by omega, Or.inr ⟨by rw [z1], c123, p2, rfl, ?_, by omega, ?_⟩⟩⟩
          · have e3 : (gR f z 125 (stepsR f z (stepN f z n ((w : Int) + 1) false false) (advF q)).2).2.2.2.2.2 = (stepsR f z (stepN f z n ((w : Int) + 1) false false) (advF q)).2.2.2.2.2 := by
              show (signF f z 125 _).2.2.2.2 = _
              unfold signF
              split <;> rfl
            rw [e3, u5, ub rfl]
          · have := hereC_lt (p := (p2 : Int)) (z := z) (f := f) (by rw [← u4, u2]; decide)
            omega
          · have := here_c (sr := f) (len := z) (a := (p2 : Int)) (c := 125) (by omega) (by rw [← hereC_f (by omega) hz.2, ← u4]; exact u2) (by decide)
            exact this
          · rw [← z1, sz]
            exact ⟨N, stL_c N N (Nat.le_refl _) _ _ _ _ _ _ _ (Nat.le_refl _) (fun b b1 b2 => S_39.2.2.2 b (by unfold dBlk; omega)) (stL_o N o _ _ _ _ u10)⟩
        · rw [eX] at g2
          exfalso
          have := congrArg Prod.snd g2
          dsimp only at this
          omega
      · skip
        refine r_astore_n (pc := 35) dX2_readCloser_35 (Nat.le_of_ble_eq_true rfl) (by first | rfl | exact isRefV_rf _) ?_
        dsimp only [lsSt, List.set, mLs, mEnt]
        refine r_aload_n (pc := 36) dX2_readCloser_36 rfl (by first | rfl | exact isRefV_rf _) ?_
        refine rj_bipush (pc := 37) dX2_readCloser_37 (by decide +kernel) ?_
        refine r_callV1 (pc := 39) dX2_readCloser_39 qX2_expect kX2_38 vX2_expect (by first | assumption | exact isI.gx (by assumption) | exact isI.gc (by assumption) | exact isW.gx (by assumption) | exact isW.gF (by assumption) | exact isW.gT (by assumption) (by omega) | exact isW.gS (by assumption) (by omega) | exact isW.gK (by assumption) (by omega) | exact isW.g1 (by assumption) | exact isW.g2 (by assumption) | exact isW.g3 (by assumption) | exact isI.gx (isW.i0 (by assumption)) | exact isI.gc (isW.i0 (by assumption)) | exact isI.gx (isW.i1 (by assumption)) | exact isI.gc (isW.i1 (by assumption)) | exact isI.gx (isW.i2 (by assumption)) | exact isI.gc (isW.i2 (by assumption)) | exact isI.gx (isW.i3 (by assumption)) | exact isI.gc (isW.i3 (by assumption)) | exact isI.gx (isW.i4 (by assumption)) | exact isI.gc (isW.i4 (by assumption)) | exact isI.gx (isW.i5 (by assumption)) | exact isI.gc (isW.i5 (by assumption)) | exact isR.gx (by assumption) | exact isRd.gx (by assumption) | exact isSp.gx (by assumption) | exact isI.gx (isR.i (by assumption)) | exact isI.gx (isRd.i (by assumption)) | exact isI.gc (isRd.i (by assumption)) | exact isI.gx (isSp.i (by assumption)) | exact isW.gx (isR.w (by assumption)) | exact isW.gF (isR.w (by assumption)) | fail "no such object") rfl rfl (Nat.le_of_ble_eq_true rfl) (rm_exp _ (s := (z, E_3)) D_32 ⟨⟨hz.1, Int.le_refl _⟩, by dsimp only; omega, by dsimp only; omega⟩ ⟨by omega, by omega⟩ hz hf (k := 125) (by decide)) (fun v_39 h_39 q_39 => ?_)
        obtain ⟨rfl, D_39, S_39⟩ := q_39
        have eX : xpM z f 125 (z, E_3) = (z, E_3) := xpM_i (by decide) E_3 u3.1
        rw [eX] at D_39
        refine r_aload_n (pc := 42) dX2_readCloser_42 rfl (by first | rfl | exact isRefV_rf _) ?_
        refine r_areturn (pc := 43) _ dX2_readCloser_43 rfl (Or.inl ⟨_, rfl⟩) (by first | rfl | exact isRefV_rf _) ?_
        have sz := S_39.2.1
        refine ⟨r_32, rfl, ((FrR.sm hS_23).tr F_32).tr (FrR.sm S_39), Or.inr ?_⟩
        have key : (andR (stepsR f z (stepN f z n ((w : Int) + 1) false false) (advF q)) (gR f z 125)).1 = false ∧ (andR (stepsR f z (stepN f z n ((w : Int) + 1) false false) (advF q)) (gR f z 125)).2.2.1 = E_3 := by
          by_cases c1 : (stepsR f z (stepN f z n ((w : Int) + 1) false false) (advF q)).1 = true
          · rw [if_pos c1] at u2
            rw [andR_t c1]
            have hne : ¬ hereF f z (stepsR f z (stepN f z n ((w : Int) + 1) false false) (advF q)).2.1 = 125 := fun g => u1 ⟨c1, by rw [hereC_f (by omega) hz.2]; exact g, fun g => absurd g.1 (by decide)⟩
            refine ⟨decide_eq_false hne, ?_⟩
            show (signF f z 125 _).2.1 = _
            unfold signF
            rw [if_neg hne]
            rw [u2]
            exact failF_v (un c1)
          · rw [if_neg c1] at u2
            rw [andR_f c1]
            exact ⟨by simpa using c1, u2.symm⟩
        exact ⟨key.1, z, E_3, o_3, D_39, ⟨⟨hz.1, Int.le_refl _⟩, by dsimp only; omega, by dsimp only; omega⟩, u4, by omega, by rw [key.2]; exact u3.1, Or.inl ⟨rfl, key.2.symm⟩⟩
    · refine r_null (pc := 14) dX2_readCloser_14 ?_
      refine r_areturn (pc := 15) _ dX2_readCloser_15 rfl (Or.inl ⟨_, rfl⟩) (by first | rfl | exact isRefV_rf _) ?_
      first | exact nopar (by assumption) | exact late (by omega) (by omega)

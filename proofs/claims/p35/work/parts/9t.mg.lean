section mg_9t
/-! ===== the class: whole texts are read ===== -/
theorem rt_w0 {G : mG} {l : Launch} {z : Int} {f : Nat → Int} {a : Nat} {h0 : mH} (hz : 0 ≤ z ∧ z ≤ 120) (hf : bytesOk f) (ha : a + 3 ≤ h0.2.1) {q : PS} (q1 : q.1 = 0) (q2 : q.2.1 = -1) (q3 : q.2.2.2.2 = 0) (hD : isRd h0 a 0 (-1) 0 z f) : RUNM G l 29 mX2_readSteps [.ref a, .int (J 0), .int (J (-1))] h0 (fun v h' => rtPost z f a true 0 0 (-1) (stepsW f z 0 true q) h0 v h') := by
  have y := rt_all (G := G) (l := l) (n := 8) (w := 0) (it := true) (o0 := 0) (p0 := 0) (en := -1) (h0 := h0) (a := a) (q := q) (rdn_all hz hf 8) hz hf (Or.inr rfl) ha (by decide) ⟨fun _ => ⟨rfl, rfl⟩, fun _ => rfl⟩ (by decide) (by rw [q1]; rfl) q2 (by rw [q3]; rfl) (by omega) (by decide) hD
  exact y
theorem rt_w1 {G : mG} {l : Launch} {z : Int} {f : Nat → Int} {a p : Nat} {h0 : mH} (hz : 0 ≤ z ∧ z ≤ 120) (hf : bytesOk f) (ha : a + 3 ≤ h0.2.1) {q : PS} (q1 : q.1 = p) (q2 : q.2.1 = -1) (q3 : q.2.2.2.2 = 0) (hp : (p : Int) ≤ z) (hD : isRd h0 a p (-1) 0 z f) : RUNM G l 29 mX2_readSteps [.ref a, .int (J 1), .int (J (-1))] h0 (fun v h' => rtPost z f a false 0 p (-1) (stepsW f z 1 false q) h0 v h') := by
  have y := rt_all (G := G) (l := l) (n := 8) (w := 1) (it := false) (o0 := 0) (p0 := p) (en := -1) (h0 := h0) (a := a) (q := q) (rdn_all hz hf 8) hz hf (Or.inr rfl) ha (by decide) ⟨fun g => absurd g (by decide), fun g => absurd g.1 (by decide)⟩ (by decide) q1 q2 (by rw [q3]; rfl) hp (by omega) hD
  exact y
theorem wR_1 {len : Int} {r : Bool × PS} (h : r.1 = true) (h2 : r.2.1 = len) (h3 : r.2.2.2.2.2 = 0) : wR len r = (true, r.2) := by
  unfold wR wholeR; rw [if_pos h, if_pos ⟨h2, h3⟩]
theorem wR_2 {len : Int} {r : Bool × PS} (h : r.1 = true) (h2 : ¬ (r.2.1 = len ∧ r.2.2.2.2.2 = 0)) : wR len r = (false, failF r.2.1 r.2) := by
  unfold wR wholeR; rw [if_pos h, if_neg h2]
theorem wR_3 {len : Int} {r : Bool × PS} (h : r.1 = false) : wR len r = r := by
  unfold wR; rw [if_neg (by rw [h]; decide)]
/-- a text of steps that was read to its end, or its fault -/
def whPost (z : Int) (f : Nat → Int) (a : Nat) (it : Bool) (p : Nat) (R : Bool × PS) (h : mH) (r : Option Nat) (h' : mH) : Prop :=
  FrR a h h' ∧ (h'.2.1 : Int) + p ≤ h.2.1 + z ∧ ∃ (E O : Int), (-1 ≤ O ∧ O ≤ 200) ∧ isRd h' a z E O z f ∧
  ((R.1 = true ∧ E = -1 ∧ r = some h.2.1 ∧ (p : Int) < z ∧ h.2.1 < h'.2.1 ∧ ∃ N, stL (hGet h') (clip f z) N it 0 h.2.1 h'.2.1 p z.toNat) ∨ (R.1 = false ∧ E = R.2.2.1 ∧ 0 ≤ E ∧ E ≤ 120))
theorem rt_wh {z : Int} {f : Nat → Int} {a p : Nat} {it : Bool} {R : Bool × PS} {h h' : mH} {v : Option Value} (hz : 0 ≤ z ∧ z ≤ 120) (hf : bytesOk f) (k : rtPost z f a it 0 p (-1) R h v h') : ∃ r, v = some (va_rf r) ∧ whPost z f a it p (wR z R) h r h' := by
  obtain ⟨r, rfl, F, k⟩ := k
  refine ⟨r, rfl, F, ?_⟩
  rcases k with ⟨k1, k2, k3, k4, rfl, p', o', k5, k6, k7, k8, k9, ka, kb, kc, kd, N, ke⟩ | ⟨k1, kn, E, o', k2, k3, k4, k5, k6⟩
  · have e1 : (p' : Int) = z := by
      rw [k5] at k2
      by_cases c : (p' : Int) < z
      · exfalso
        have h5 : hereC p' z f = f p' := by unfold hereC; rw [if_pos ⟨by omega, c, by omega⟩]; rfl
        have h6 := hf p'
        omega
      · omega
    have e2 : o' = 0 := by omega
    have eW : wR z R = (true, R.2) := by unfold wR wholeR; rw [if_pos k1, if_pos ⟨by omega, by omega⟩]
    rw [eW]
    subst e2
    rw [e1] at k7
    refine ⟨by omega, -1, 0, ⟨by decide, by decide⟩, k7, Or.inl ⟨rfl, rfl, rfl, by omega, kc, N, ?_⟩⟩
    rw [show z.toNat = p' by omega]; exact ke
  · have eW : (wR z R).1 = false ∧ (wR z R).2.2.1 = E := by
      unfold wR
      by_cases c : R.1 = true
      · rw [if_pos c] at k2 ⊢
        have nw : ¬ (R.2.1 = z ∧ R.2.2.2.2.2 = 0) := fun g => k1 ⟨c, by rw [g.1]; exact hereC_e, fun q => by have := q.2; omega⟩
        unfold wholeR
        rw [if_neg nw]
        exact ⟨rfl, by rw [k2]; exact failF_v (kn c)⟩
      · rw [if_neg c] at k2 ⊢
        exact ⟨by simpa using c, k2.symm⟩
    exact ⟨by omega, E, o', k4, k5, Or.inr ⟨eW.1, eW.2.symm, k3.1, k3.2⟩⟩
set_option maxHeartbeats 4000000 in
set_option maxRecDepth 100000 in
theorem rd_task {G : mG} {l : Launch} (d : Nat) {h : mH} {a : Nat} {p e o z : Int} {f : Nat → Int} (hD : isRd h a p e o z f) (hz : 0 ≤ z ∧ z ≤ 120) (hf : bytesOk f) (ha : a + 3 ≤ h.2.1) (f11 f12 : Int) : RUNM G l (30) mX2_readTask [.ref a] h (fun v h' => FrR a h h' ∧ (h'.2.1 : Int) ≤ h.2.1 + z ∧ ∃ (E O : Int), (-1 ≤ O ∧ O ≤ 200) ∧ isRd h' a z E O z f ∧ (((taskR f z f11 f12).1 = true ∧ E = -1 ∧ v = some (.ref h.2.1) ∧ h.2.1 < h'.2.1 ∧ 0 < z ∧ ∃ N, stL (hGet h') (clip f z) N true 0 h.2.1 h'.2.1 0 z.toNat) ∨ ((taskR f z f11 f12).1 = false ∧ E = (taskR f z f11 f12).2.2.1 ∧ 0 ≤ E ∧ E ≤ 120 ∧ v = some .null))) := by
  refine RUNM.of (by decide +kernel) (Nat.le_of_ble_eq_true rfl) ?_
  refine r_aload_n (pc := 0) dX2_readTask_0 rfl (by first | rfl | exact isRefV_rf _) ?_
  refine r_callV0 (pc := 1) dX2_readTask_1 qX2_begin kX2_20 vX2_begin (by first | assumption | exact isI.gx (by assumption) | exact isI.gc (by assumption) | exact isW.gx (by assumption) | exact isW.gF (by assumption) | exact isW.gT (by assumption) (by omega) | exact isW.gS (by assumption) (by omega) | exact isW.gK (by assumption) (by omega) | exact isW.g1 (by assumption) | exact isW.g2 (by assumption) | exact isW.g3 (by assumption) | exact isI.gx (isW.i0 (by assumption)) | exact isI.gc (isW.i0 (by assumption)) | exact isI.gx (isW.i1 (by assumption)) | exact isI.gc (isW.i1 (by assumption)) | exact isI.gx (isW.i2 (by assumption)) | exact isI.gc (isW.i2 (by assumption)) | exact isI.gx (isW.i3 (by assumption)) | exact isI.gc (isW.i3 (by assumption)) | exact isI.gx (isW.i4 (by assumption)) | exact isI.gc (isW.i4 (by assumption)) | exact isI.gx (isW.i5 (by assumption)) | exact isI.gc (isW.i5 (by assumption)) | exact isR.gx (by assumption) | exact isRd.gx (by assumption) | exact isSp.gx (by assumption) | exact isI.gx (isR.i (by assumption)) | exact isI.gx (isRd.i (by assumption)) | exact isI.gc (isRd.i (by assumption)) | exact isI.gx (isSp.i (by assumption)) | exact isW.gx (isR.w (by assumption)) | exact isW.gF (isR.w (by assumption)) | fail "no such object") rfl rfl (Nat.le_of_ble_eq_true rfl) (cd_begin _ hD) (fun v_1 h_1 q_1 => ?_)
  obtain ⟨rfl, D_1, S_1⟩ := q_1
  have z_1 := S_1.2.1
  refine r_aload_n (pc := 4) dX2_readTask_4 rfl (by first | rfl | exact isRefV_rf _) ?_
  refine rj_iconst (pc := 5) dX2_readTask_5 ?_
  refine rj_iconst (pc := 6) dX2_readTask_6 ?_
  refine r_callV2 (pc := 7) dX2_readTask_7 qX2_readSteps kX2_41 vX2_readSteps (by first | assumption | exact isI.gx (by assumption) | exact isI.gc (by assumption) | exact isW.gx (by assumption) | exact isW.gF (by assumption) | exact isW.gT (by assumption) (by omega) | exact isW.gS (by assumption) (by omega) | exact isW.gK (by assumption) (by omega) | exact isW.g1 (by assumption) | exact isW.g2 (by assumption) | exact isW.g3 (by assumption) | exact isI.gx (isW.i0 (by assumption)) | exact isI.gc (isW.i0 (by assumption)) | exact isI.gx (isW.i1 (by assumption)) | exact isI.gc (isW.i1 (by assumption)) | exact isI.gx (isW.i2 (by assumption)) | exact isI.gc (isW.i2 (by assumption)) | exact isI.gx (isW.i3 (by assumption)) | exact isI.gc (isW.i3 (by assumption)) | exact isI.gx (isW.i4 (by assumption)) | exact isI.gc (isW.i4 (by assumption)) | exact isI.gx (isW.i5 (by assumption)) | exact isI.gc (isW.i5 (by assumption)) | exact isR.gx (by assumption) | exact isRd.gx (by assumption) | exact isSp.gx (by assumption) | exact isI.gx (isR.i (by assumption)) | exact isI.gx (isRd.i (by assumption)) | exact isI.gc (isRd.i (by assumption)) | exact isI.gx (isSp.i (by assumption)) | exact isW.gx (isR.w (by assumption)) | exact isW.gF (isR.w (by assumption)) | fail "no such object") rfl rfl (Nat.le_of_ble_eq_true rfl) (rt_w0 (q := ps0 f11 f12) hz hf (by omega) rfl rfl rfl D_1) (fun v_7 h_7 q_7 => ?_)
  obtain ⟨r_7, rfl, F_7, Z_7, E, O, rO, D_7, Q_7⟩ := rt_wh hz hf q_7
  have rE : InR E := by
    rcases Q_7 with ⟨-, g, -⟩ | ⟨-, -, g1, g2⟩
    · rw [g]; decide
    · exact ⟨by omega, by omega⟩
  refine r_astore_n (pc := 10) dX2_readTask_10 (Nat.le_of_ble_eq_true rfl) (by first | rfl | exact isRefV_rf _) ?_
  dsimp only [lsSt, List.set, mLs, mEnt]
  refine r_aload_n (pc := 11) dX2_readTask_11 rfl (by first | rfl | exact isRefV_rf _) ?_
  refine r_getf (pc := 12) dX2_readTask_12 fX2_49 (by first | assumption | exact isI.gx (by assumption) | exact isI.gc (by assumption) | exact isW.gx (by assumption) | exact isW.gF (by assumption) | exact isW.gT (by assumption) (by omega) | exact isW.gS (by assumption) (by omega) | exact isW.gK (by assumption) (by omega) | exact isW.g1 (by assumption) | exact isW.g2 (by assumption) | exact isW.g3 (by assumption) | exact isI.gx (isW.i0 (by assumption)) | exact isI.gc (isW.i0 (by assumption)) | exact isI.gx (isW.i1 (by assumption)) | exact isI.gc (isW.i1 (by assumption)) | exact isI.gx (isW.i2 (by assumption)) | exact isI.gc (isW.i2 (by assumption)) | exact isI.gx (isW.i3 (by assumption)) | exact isI.gc (isW.i3 (by assumption)) | exact isI.gx (isW.i4 (by assumption)) | exact isI.gc (isW.i4 (by assumption)) | exact isI.gx (isW.i5 (by assumption)) | exact isI.gc (isW.i5 (by assumption)) | exact isR.gx (by assumption) | exact isRd.gx (by assumption) | exact isSp.gx (by assumption) | exact isI.gx (isR.i (by assumption)) | exact isI.gx (isRd.i (by assumption)) | exact isI.gc (isRd.i (by assumption)) | exact isI.gx (isSp.i (by assumption)) | exact isW.gx (isR.w (by assumption)) | exact isW.gF (isR.w (by assumption)) | fail "no such object") (by rfl) ?_
  refine rj_if_ge (pc := 15) (tgt := 22) dX2_readTask_15 (by decide) (by first | exact b01_r | exact bz_r | omega | (constructor <;> omega) | apply_assumption | (apply atF_r; assumption) | fail "no range") (fun c_15 => ?_) (fun c_15 => ?_)
  · refine r_null (pc := 22) dX2_readTask_22 ?_
    refine r_areturn (pc := 23) _ dX2_readTask_23 rfl (Or.inl ⟨_, rfl⟩) (by first | rfl | exact isRefV_rf _) ?_
    have F : FrR a h h_7 := (FrR.sm S_1).tr F_7
    refine ⟨F, by omega, E, O, rO, D_7, ?_⟩
    rcases Q_7 with ⟨g1, g2, g3, g4, g5, N, g6⟩ | ⟨g1, g2, g3, g4⟩
    · first
      | (exfalso; omega)
      | (subst g3; exact Or.inl ⟨g1, g2, by rw [z_1]; rfl, by omega, by omega, N, by rw [← z_1]; exact g6⟩)
    · first
      | (exfalso; omega)
      | exact Or.inr ⟨g1, g2, g3, g4, rfl⟩
  · refine r_aload_n (pc := 18) dX2_readTask_18 rfl (by first | rfl | exact isRefV_rf _) ?_
    refine r_goto (pc := 19) (tgt := 23) dX2_readTask_19 (by decide) ?_
    refine r_areturn (pc := 23) _ dX2_readTask_23 rfl (Or.inl ⟨_, rfl⟩) (by first | rfl | exact isRefV_rf _) ?_
    have F : FrR a h h_7 := (FrR.sm S_1).tr F_7
    refine ⟨F, by omega, E, O, rO, D_7, ?_⟩
    rcases Q_7 with ⟨g1, g2, g3, g4, g5, N, g6⟩ | ⟨g1, g2, g3, g4⟩
    · first
      | (exfalso; omega)
      | (subst g3; exact Or.inl ⟨g1, g2, by rw [z_1]; rfl, by omega, by omega, N, by rw [← z_1]; exact g6⟩)
    · first
      | (exfalso; omega)
      | exact Or.inr ⟨g1, g2, g3, g4, rfl⟩
theorem ren_ok {z : Int} {f : Nat → Int} {f11 f12 : Int} (hz : 0 ≤ z ∧ z ≤ 120) : (nameB f z (ps0 f11 f12) ∧ ∃ e : Nat, namS (clip f z) 0 e ∧ nmM z f (0, -1) = ((e : Int), -1) ∧ (rnL z f 7 0 0).1 = nmY (clip f z) 0 e ∧ (97 ≤ hereC 0 z f ∧ hereC 0 z f ≤ 122) ∧ (nameF f z (ps0 f11 f12)).1 = e ∧ (nameF f z (ps0 f11 f12)).2.1 = -1 ∧ (nameF f z (ps0 f11 f12)).2.2.2.2 = 0 ∧ (e : Int) ≤ z) ∨ (¬ nameB f z (ps0 f11 f12) ∧ nmM z f (0, -1) = (z, 0) ∧ (nameF f z (ps0 f11 f12)).2.1 = 0) := by
  have o1 := ok_name (f := f) (q := ps0 f11 f12) (Int.le_refl _) hz.2 rfl
  by_cases b : nameB f z (ps0 f11 f12)
  · have hR : (aR f z (ps0 f11 f12)).1 = true := decide_eq_true b
    obtain ⟨n1, n2, n3⟩ := aR_rd (sr := f) (len := z) (q := ps0 f11 f12) (Int.le_refl _) hR
    have n4 : (0 : Int) < (aR f z (ps0 f11 f12)).2.1 := n2
    rcases o1 with ⟨-, g2, g3⟩ | ⟨g1, -⟩
    · obtain ⟨c1, c2, c3⟩ := okn (p := 0) hz.2 n1
      refine Or.inl ⟨b, _, n1, c2, c3, c1, ?_, g3, by show (aR f z (ps0 f11 f12)).2.2.2.2.2 = 0; rw [n3]; rfl, ?_⟩
      · show (aR f z (ps0 f11 f12)).2.1 = _
        omega
      · have k := nmM_r (f := f) (s := (0, -1)) (z := z) ⟨⟨Int.le_refl _, hz.1⟩, by decide, by decide⟩ hz.2
        have c2' : nmM z f (0, -1) = (((aR f z (ps0 f11 f12)).2.1.toNat : Int), -1) := c2
        rw [c2'] at k
        exact k.1.2
    · rw [hR] at g1; cases g1
  · have e : nameF f z (ps0 f11 f12) = failF 0 (ps0 f11 f12) := by unfold nameF; rw [if_neg b]; rfl
    refine Or.inr ⟨b, ?_, by rw [e]; exact failF_v rfl⟩
    have : ¬ (97 ≤ hereC 0 z f ∧ hereC 0 z f ≤ 122) := by rw [hereC_f (Int.le_refl _) hz.2]; exact b
    unfold nmM; dsimp only; rw [if_neg this, ftE_n]
set_option maxHeartbeats 4000000 in
set_option maxRecDepth 100000 in
theorem rd_whole {G : mG} {l : Launch} (d : Nat) {h : mH} {a : Nat} {p e o z : Int} {f : Nat → Int} (hD : isRd h a p e o z f) (hz : 0 ≤ z ∧ z ≤ 120) (hf : bytesOk f) (ha : a + 3 ≤ h.2.1) (f11 f12 : Int) : RUNM G l (30) mX2_readWholeName [.ref a] h (fun v h' => ∃ y, v = some (.long y) ∧ FrR a h h' ∧ h'.2.1 = h.2.1 ∧ ∃ (P E : Int), (0 ≤ P ∧ P ≤ z) ∧ isRd h' a P E 0 z f ∧ (((renR f z f11 f12).1 = true ∧ E = -1 ∧ namS (clip f z) 0 z.toNat ∧ y = nmY (clip f z) 0 z.toNat) ∨ ((renR f z f11 f12).1 = false ∧ E = (renR f z f11 f12).2.2.1 ∧ 0 ≤ E ∧ E ≤ 120))) := by
  refine RUNM.of (by decide +kernel) (Nat.le_of_ble_eq_true rfl) ?_
  have hf' : ∀ q, InR (f q) := fun q => by have := hf q; exact ⟨by omega, by omega⟩
  refine r_aload_n (pc := 0) dX2_readWholeName_0 rfl (by first | rfl | exact isRefV_rf _) ?_
  refine r_callV0 (pc := 1) dX2_readWholeName_1 qX2_begin kX2_20 vX2_begin (by first | assumption | exact isI.gx (by assumption) | exact isI.gc (by assumption) | exact isW.gx (by assumption) | exact isW.gF (by assumption) | exact isW.gT (by assumption) (by omega) | exact isW.gS (by assumption) (by omega) | exact isW.gK (by assumption) (by omega) | exact isW.g1 (by assumption) | exact isW.g2 (by assumption) | exact isW.g3 (by assumption) | exact isI.gx (isW.i0 (by assumption)) | exact isI.gc (isW.i0 (by assumption)) | exact isI.gx (isW.i1 (by assumption)) | exact isI.gc (isW.i1 (by assumption)) | exact isI.gx (isW.i2 (by assumption)) | exact isI.gc (isW.i2 (by assumption)) | exact isI.gx (isW.i3 (by assumption)) | exact isI.gc (isW.i3 (by assumption)) | exact isI.gx (isW.i4 (by assumption)) | exact isI.gc (isW.i4 (by assumption)) | exact isI.gx (isW.i5 (by assumption)) | exact isI.gc (isW.i5 (by assumption)) | exact isR.gx (by assumption) | exact isRd.gx (by assumption) | exact isSp.gx (by assumption) | exact isI.gx (isR.i (by assumption)) | exact isI.gx (isRd.i (by assumption)) | exact isI.gc (isRd.i (by assumption)) | exact isI.gx (isSp.i (by assumption)) | exact isW.gx (isR.w (by assumption)) | exact isW.gF (isR.w (by assumption)) | fail "no such object") rfl rfl (Nat.le_of_ble_eq_true rfl) (cd_begin _ hD) (fun v_1 h_1 q_1 => ?_)
  obtain ⟨rfl, D_1, S_1⟩ := q_1
  have z_1 := S_1.2.1
  refine r_aload_n (pc := 4) dX2_readWholeName_4 rfl (by first | rfl | exact isRefV_rf _) ?_
  refine r_callV0 (pc := 5) dX2_readWholeName_5 qX2_readName kX2_26 vX2_readName (by first | assumption | exact isI.gx (by assumption) | exact isI.gc (by assumption) | exact isW.gx (by assumption) | exact isW.gF (by assumption) | exact isW.gT (by assumption) (by omega) | exact isW.gS (by assumption) (by omega) | exact isW.gK (by assumption) (by omega) | exact isW.g1 (by assumption) | exact isW.g2 (by assumption) | exact isW.g3 (by assumption) | exact isI.gx (isW.i0 (by assumption)) | exact isI.gc (isW.i0 (by assumption)) | exact isI.gx (isW.i1 (by assumption)) | exact isI.gc (isW.i1 (by assumption)) | exact isI.gx (isW.i2 (by assumption)) | exact isI.gc (isW.i2 (by assumption)) | exact isI.gx (isW.i3 (by assumption)) | exact isI.gc (isW.i3 (by assumption)) | exact isI.gx (isW.i4 (by assumption)) | exact isI.gc (isW.i4 (by assumption)) | exact isI.gx (isW.i5 (by assumption)) | exact isI.gc (isW.i5 (by assumption)) | exact isR.gx (by assumption) | exact isRd.gx (by assumption) | exact isSp.gx (by assumption) | exact isI.gx (isR.i (by assumption)) | exact isI.gx (isRd.i (by assumption)) | exact isI.gc (isRd.i (by assumption)) | exact isI.gx (isSp.i (by assumption)) | exact isW.gx (isR.w (by assumption)) | exact isW.gF (isR.w (by assumption)) | fail "no such object") rfl rfl (Nat.le_of_ble_eq_true rfl) (rm_name _ (s := (0, -1)) D_1 ⟨⟨Int.le_refl _, hz.1⟩, by decide, by decide⟩ ⟨by decide, by decide⟩ hz hf) (fun v_5 h_5 q_5 => ?_)
  obtain ⟨⟨y_5, rfl, Y_5⟩, D_5, S_5⟩ := q_5
  have rn := nmM_r (f := f) (s := (0, -1)) (z := z) ⟨⟨Int.le_refl _, hz.1⟩, by decide, by decide⟩ hz.2
  obtain ⟨⟨rn1, rn2⟩, rn3, rn4⟩ := rn
  refine r_lstore_n (pc := 8) dX2_readWholeName_8 (Nat.le_of_ble_eq_true rfl) ?_
  dsimp only [lsSt, lsSt2, List.set, mLs, mEnt]
  refine r_aload_n (pc := 9) dX2_readWholeName_9 rfl (by first | rfl | exact isRefV_rf _) ?_
  refine r_callV0 (pc := 10) dX2_readWholeName_10 qX2_here kX2_34 vX2_here (by first | assumption | exact isI.gx (by assumption) | exact isI.gc (by assumption) | exact isW.gx (by assumption) | exact isW.gF (by assumption) | exact isW.gT (by assumption) (by omega) | exact isW.gS (by assumption) (by omega) | exact isW.gK (by assumption) (by omega) | exact isW.g1 (by assumption) | exact isW.g2 (by assumption) | exact isW.g3 (by assumption) | exact isI.gx (isW.i0 (by assumption)) | exact isI.gc (isW.i0 (by assumption)) | exact isI.gx (isW.i1 (by assumption)) | exact isI.gc (isW.i1 (by assumption)) | exact isI.gx (isW.i2 (by assumption)) | exact isI.gc (isW.i2 (by assumption)) | exact isI.gx (isW.i3 (by assumption)) | exact isI.gc (isW.i3 (by assumption)) | exact isI.gx (isW.i4 (by assumption)) | exact isI.gc (isW.i4 (by assumption)) | exact isI.gx (isW.i5 (by assumption)) | exact isI.gc (isW.i5 (by assumption)) | exact isR.gx (by assumption) | exact isRd.gx (by assumption) | exact isSp.gx (by assumption) | exact isI.gx (isR.i (by assumption)) | exact isI.gx (isRd.i (by assumption)) | exact isI.gc (isRd.i (by assumption)) | exact isI.gx (isSp.i (by assumption)) | exact isW.gx (isR.w (by assumption)) | exact isW.gF (isR.w (by assumption)) | fail "no such object") rfl rfl (Nat.le_of_ble_eq_true rfl) (cd_here _ D_5 ⟨by omega, by omega⟩ ⟨by omega, by omega⟩ ⟨by decide, by decide⟩ ⟨by omega, by omega⟩ hf') (fun v_10 h_10 q_10 => ?_)
  obtain ⟨rfl, e_10⟩ := q_10
  have e_10 := e_10.symm
  subst e_10
  have rh := hereC_r (p := (nmM z f (0, -1)).1) (z := z) hf'
  refine rj_iconst (pc := 13) dX2_readWholeName_13 ?_
  refine rj_icmp_eq (pc := 14) (tgt := 25) dX2_readWholeName_14 (by decide) (by first | exact b01_r | exact bz_r | omega | (constructor <;> omega) | apply_assumption | (apply atF_r; assumption) | fail "no range") (by first | exact b01_r | exact bz_r | omega | (constructor <;> omega) | apply_assumption | (apply atF_r; assumption) | fail "no range") (fun c_14 => ?_) (fun c_14 => ?_)
  · refine r_lload_n (pc := 25) dX2_readWholeName_25 rfl ?_
    refine r_lreturn (pc := 26) dX2_readWholeName_26 rfl ?_
    have ro := ren_ok (f := f) (f11 := f11) (f12 := f12) hz
    have sz := S_5.2.1
    rcases ro with ⟨b, e, n1, n2, n3, n4, n5, n6, n7, n8⟩ | ⟨b, n2, n3⟩
    · rw [n2] at D_5 c_14
      dsimp only at D_5 c_14
      have he : (e : Int) = z := by
        by_cases c : (e : Int) < z
        · exfalso
          have h5 : hereC e z f = f e := by unfold hereC; rw [if_pos ⟨by omega, c, by omega⟩]; rfl
          have := hf e
          omega
        · omega
      have eR : renR f z f11 f12 = (true, nameF f z (ps0 f11 f12)) := wR_1 (r := (decide (nameB f z (ps0 f11 f12)), nameF f z (ps0 f11 f12))) (decide_eq_true b) (n5.trans he) n7
      refine ⟨y_5, rfl, (FrR.sm S_1).tr (FrR.sm S_5), by omega, e, -1, by omega, D_5, Or.inl ⟨by rw [eR], rfl, ?_, ?_⟩⟩
      · rw [show z.toNat = e by omega]; exact n1
      · rw [show z.toNat = e by omega, Y_5 n4]; exact n3
    · rw [n2] at D_5
      dsimp only at D_5
      have eR : renR f z f11 f12 = (false, nameF f z (ps0 f11 f12)) := (wR_3 (r := (decide (nameB f z (ps0 f11 f12)), nameF f z (ps0 f11 f12))) (decide_eq_false b)).trans (congrArg (fun t => (t, nameF f z (ps0 f11 f12))) (decide_eq_false b))
      exact ⟨y_5, rfl, (FrR.sm S_1).tr (FrR.sm S_5), by omega, z, 0, by omega, D_5, Or.inr ⟨by rw [eR], by rw [eR]; exact n3.symm, by omega, by omega⟩⟩
  · refine r_aload_n (pc := 17) dX2_readWholeName_17 rfl (by first | rfl | exact isRefV_rf _) ?_
    refine r_aload_n (pc := 18) dX2_readWholeName_18 rfl (by first | rfl | exact isRefV_rf _) ?_
    refine r_getf (pc := 19) dX2_readWholeName_19 fX2_53 (by first | assumption | exact isI.gx (by assumption) | exact isI.gc (by assumption) | exact isW.gx (by assumption) | exact isW.gF (by assumption) | exact isW.gT (by assumption) (by omega) | exact isW.gS (by assumption) (by omega) | exact isW.gK (by assumption) (by omega) | exact isW.g1 (by assumption) | exact isW.g2 (by assumption) | exact isW.g3 (by assumption) | exact isI.gx (isW.i0 (by assumption)) | exact isI.gc (isW.i0 (by assumption)) | exact isI.gx (isW.i1 (by assumption)) | exact isI.gc (isW.i1 (by assumption)) | exact isI.gx (isW.i2 (by assumption)) | exact isI.gc (isW.i2 (by assumption)) | exact isI.gx (isW.i3 (by assumption)) | exact isI.gc (isW.i3 (by assumption)) | exact isI.gx (isW.i4 (by assumption)) | exact isI.gc (isW.i4 (by assumption)) | exact isI.gx (isW.i5 (by assumption)) | exact isI.gc (isW.i5 (by assumption)) | exact isR.gx (by assumption) | exact isRd.gx (by assumption) | exact isSp.gx (by assumption) | exact isI.gx (isR.i (by assumption)) | exact isI.gx (isRd.i (by assumption)) | exact isI.gc (isRd.i (by assumption)) | exact isI.gx (isSp.i (by assumption)) | exact isW.gx (isR.w (by assumption)) | exact isW.gF (isR.w (by assumption)) | fail "no such object") (by rfl) ?_
    refine r_callV1 (pc := 22) dX2_readWholeName_22 qX2_failAt kX2_56 vX2_failAt (by first | assumption | exact isI.gx (by assumption) | exact isI.gc (by assumption) | exact isW.gx (by assumption) | exact isW.gF (by assumption) | exact isW.gT (by assumption) (by omega) | exact isW.gS (by assumption) (by omega) | exact isW.gK (by assumption) (by omega) | exact isW.g1 (by assumption) | exact isW.g2 (by assumption) | exact isW.g3 (by assumption) | exact isI.gx (isW.i0 (by assumption)) | exact isI.gc (isW.i0 (by assumption)) | exact isI.gx (isW.i1 (by assumption)) | exact isI.gc (isW.i1 (by assumption)) | exact isI.gx (isW.i2 (by assumption)) | exact isI.gc (isW.i2 (by assumption)) | exact isI.gx (isW.i3 (by assumption)) | exact isI.gc (isW.i3 (by assumption)) | exact isI.gx (isW.i4 (by assumption)) | exact isI.gc (isW.i4 (by assumption)) | exact isI.gx (isW.i5 (by assumption)) | exact isI.gc (isW.i5 (by assumption)) | exact isR.gx (by assumption) | exact isRd.gx (by assumption) | exact isSp.gx (by assumption) | exact isI.gx (isR.i (by assumption)) | exact isI.gx (isRd.i (by assumption)) | exact isI.gc (isRd.i (by assumption)) | exact isI.gx (isSp.i (by assumption)) | exact isW.gx (isR.w (by assumption)) | exact isW.gF (isR.w (by assumption)) | fail "no such object") rfl rfl (Nat.le_of_ble_eq_true rfl) (rd_failAt _ D_5 ⟨by omega, by omega⟩ (nmM z f (0, -1)).1) (fun v_22 h_22 q_22 => ?_)
    obtain ⟨rfl, D_22, S_22⟩ := q_22
    refine r_lload_n (pc := 25) dX2_readWholeName_25 rfl ?_
    refine r_lreturn (pc := 26) dX2_readWholeName_26 rfl ?_
    have ro := ren_ok (f := f) (f11 := f11) (f12 := f12) hz
    have sz := S_5.2.1
    have sz2 := S_22.2.1
    rcases ro with ⟨b, e, n1, n2, n3, n4, n5, n6, n7, n8⟩ | ⟨b, n2, n3⟩
    · rw [n2] at D_22 c_14
      dsimp only at D_22 c_14
      rw [ftE_n] at D_22
      have he : ¬ (e : Int) = z := fun g => c_14 (by rw [g]; exact hereC_e)
      have eR : renR f z f11 f12 = (false, failF (nameF f z (ps0 f11 f12)).1 (nameF f z (ps0 f11 f12))) := wR_2 (r := (decide (nameB f z (ps0 f11 f12)), nameF f z (ps0 f11 f12))) (decide_eq_true b) (fun g => he (n5.symm.trans g.1))
      exact ⟨y_5, rfl, ((FrR.sm S_1).tr (FrR.sm S_5)).tr (FrR.sm S_22), by omega, z, e, by omega, D_22, Or.inr ⟨by rw [eR], by rw [eR]; exact (n5.symm.trans (failF_v n6).symm), by omega, by omega⟩⟩
    · exfalso
      rw [n2] at c_14
      exact c_14 hereC_e
end mg_9t
section mg_9u
/-! ===== the class: a thing's text is read ===== -/
def thPost (z : Int) (f : Nat → Int) (a : Nat) (f11 f12 : Int) (h : mH) (v : Option Value) (h' : mH) : Prop :=
  FrR a h h' ∧ (h'.2.1 : Int) ≤ h.2.1 + z + 1 ∧ ∃ (P E O : Int), (0 ≤ P ∧ P ≤ z) ∧ (-1 ≤ O ∧ O ≤ 200) ∧ isRd h' a P E O z f ∧
  (((wR z (takeR f z f11 f12)).1 = true ∧ E = -1 ∧ v = some (.ref h.2.1) ∧ h.2.1 < h'.2.1 ∧ namS (clip f z) 0 (takeE f z f11 f12) ∧ ∃ inn, hGet h' h.2.1 = some (stO 97 0 0 (nmY (clip f z) 0 (takeE f z f11 f12)) inn none) ∧ (((takeE f z f11 f12 : Int) = z ∧ inn = none) ∨ ((takeE f z f11 f12 : Int) < z ∧ clip f z (takeE f z f11 f12) = 61 ∧ ∃ b N, inn = some b ∧ h.2.1 < b ∧ b < h'.2.1 ∧ stL (hGet h') (clip f z) N false 0 b h'.2.1 (takeE f z f11 f12 + 1) z.toNat))) ∨
   ((wR z (takeR f z f11 f12)).1 = false ∧ E = (wR z (takeR f z f11 f12)).2.2.1 ∧ 0 ≤ E ∧ E ≤ 120 ∧ v = some .null))
theorem takeR_1 {z : Int} {f : Nat → Int} {f11 f12 : Int} (h : nameB f z (ps0 f11 f12) ∧ hereF f z (nameF f z (ps0 f11 f12)).1 = 61) : takeR f z f11 f12 = stepsW f z 1 false (advF (nameF f z (ps0 f11 f12))) := by unfold takeR; rw [if_pos h]
theorem takeR_2 {z : Int} {f : Nat → Int} {f11 f12 : Int} (h : ¬ (nameB f z (ps0 f11 f12) ∧ hereF f z (nameF f z (ps0 f11 f12)).1 = 61)) : takeR f z f11 f12 = (decide (nameB f z (ps0 f11 f12)), nameF f z (ps0 f11 f12)) := by unfold takeR; rw [if_neg h]
set_option maxHeartbeats 4000000 in
set_option maxRecDepth 100000 in
theorem rd_thing {G : mG} {l : Launch} {h : mH} {a : Nat} {p e o z : Int} {f : Nat → Int} (hD : isRd h a p e o z f) (hz : 0 ≤ z ∧ z ≤ 120) (hf : bytesOk f) (ha : a + 3 ≤ h.2.1) (f11 f12 : Int) : RUNM G l 30 mX2_readThing [.ref a] h (fun v h' => thPost z f a f11 f12 h v h') := by
  have hf' : ∀ q, InR (f q) := fun q => by have := hf q; exact ⟨by omega, by omega⟩
  refine RUNM.of (by decide +kernel) (Nat.le_of_ble_eq_true rfl) ?_
  refine r_aload_n (pc := 0) dX2_readThing_0 rfl (by first | rfl | exact isRefV_rf _) ?_
  refine r_callV0 (pc := 1) dX2_readWholeName_1 qX2_begin kX2_20 vX2_begin (by first | assumption | exact isI.gx (by assumption) | exact isI.gc (by assumption) | exact isW.gx (by assumption) | exact isW.gF (by assumption) | exact isW.gT (by assumption) (by omega) | exact isW.gS (by assumption) (by omega) | exact isW.gK (by assumption) (by omega) | exact isW.g1 (by assumption) | exact isW.g2 (by assumption) | exact isW.g3 (by assumption) | exact isI.gx (isW.i0 (by assumption)) | exact isI.gc (isW.i0 (by assumption)) | exact isI.gx (isW.i1 (by assumption)) | exact isI.gc (isW.i1 (by assumption)) | exact isI.gx (isW.i2 (by assumption)) | exact isI.gc (isW.i2 (by assumption)) | exact isI.gx (isW.i3 (by assumption)) | exact isI.gc (isW.i3 (by assumption)) | exact isI.gx (isW.i4 (by assumption)) | exact isI.gc (isW.i4 (by assumption)) | exact isI.gx (isW.i5 (by assumption)) | exact isI.gc (isW.i5 (by assumption)) | exact isR.gx (by assumption) | exact isRd.gx (by assumption) | exact isSp.gx (by assumption) | exact isI.gx (isR.i (by assumption)) | exact isI.gx (isRd.i (by assumption)) | exact isI.gc (isRd.i (by assumption)) | exact isI.gx (isSp.i (by assumption)) | exact isW.gx (isR.w (by assumption)) | exact isW.gF (isR.w (by assumption)) | fail "no such object") rfl rfl (Nat.le_of_ble_eq_true rfl) (cd_begin _ hD) (fun v_1 h_1 q_1 => ?_)
  obtain ⟨rfl, D_1, S_1⟩ := q_1
  have z_1 := S_1.2.1
  refine rg_newC (pc := 4) (z := h.2.1) dX2_readThing_4 cX2_23 S_1.2.1 (fun h_4 o_4 s_4 l_4 n_4 k_4 => ?_)
  have ll := hD.lo
  have e1 := S_1.1
  have e3 := S_1.2.2.1
  have hD_4 := D_1.keep2 (h' := h_4) l_4 (fun b hb => s_4 b (by unfold dBlk at hb; omega))
  refine r_dup (pc := 7) dX2_readThing_7 (by first | rfl | (cases ‹Option Nat› <;> rfl)) ?_
  refine rj_bipush (pc := 8) dX2_readThing_8 (by decide +kernel) ?_
  refine r_callI1 (pc := 10) dX2_readThing_10 qX6_init rfl kX2_25 rfl iX6_init (Nat.le_of_ble_eq_true rfl) (k_X6 _ o_4 (by omega)) (fun v_10 h_10 q_10 => ?_)
  obtain ⟨rfl, o_10, S_10⟩ := q_10
  have hD_10 := hD_4.keep2 S_10.1 (fun b hb => S_10.2.2.2 b (by unfold dBlk at hb; omega))
  have f1 := S_10.1
  have f2 := S_10.2.1
  have f3 := S_10.2.2.1
  have o_11 : hGet h_10 h.2.1 = some (stO 97 0 0 0 none none) := by unfold stO; rw [← J_0]; exact o_10
  have F_10 : FrR a h h_10 := ⟨by omega, by omega, by omega, fun b hb hn => (S_10.2.2.2 b (by omega)).trans ((s_4 b (by omega)).trans (S_1.2.2.2 b hn))⟩
  refine r_astore_n (pc := 13) dX2_readThing_13 (Nat.le_of_ble_eq_true rfl) (by first | rfl | exact isRefV_rf _) ?_
  dsimp only [lsSt, List.set, mLs, mEnt]
  refine r_aload_n (pc := 14) dX2_readThing_14 rfl (by first | rfl | exact isRefV_rf _) ?_
  refine r_aload_n (pc := 15) dX2_readThing_15 rfl (by first | rfl | exact isRefV_rf _) ?_
  refine r_callV0 (pc := 16) dX2_readThing_16 qX2_readName kX2_26 vX2_readName (by first | assumption | exact isI.gx (by assumption) | exact isI.gc (by assumption) | exact isW.gx (by assumption) | exact isW.gF (by assumption) | exact isW.gT (by assumption) (by omega) | exact isW.gS (by assumption) (by omega) | exact isW.gK (by assumption) (by omega) | exact isW.g1 (by assumption) | exact isW.g2 (by assumption) | exact isW.g3 (by assumption) | exact isI.gx (isW.i0 (by assumption)) | exact isI.gc (isW.i0 (by assumption)) | exact isI.gx (isW.i1 (by assumption)) | exact isI.gc (isW.i1 (by assumption)) | exact isI.gx (isW.i2 (by assumption)) | exact isI.gc (isW.i2 (by assumption)) | exact isI.gx (isW.i3 (by assumption)) | exact isI.gc (isW.i3 (by assumption)) | exact isI.gx (isW.i4 (by assumption)) | exact isI.gc (isW.i4 (by assumption)) | exact isI.gx (isW.i5 (by assumption)) | exact isI.gc (isW.i5 (by assumption)) | exact isR.gx (by assumption) | exact isRd.gx (by assumption) | exact isSp.gx (by assumption) | exact isI.gx (isR.i (by assumption)) | exact isI.gx (isRd.i (by assumption)) | exact isI.gc (isRd.i (by assumption)) | exact isI.gx (isSp.i (by assumption)) | exact isW.gx (isR.w (by assumption)) | exact isW.gF (isR.w (by assumption)) | fail "no such object") rfl rfl (Nat.le_of_ble_eq_true rfl) (rm_name _ (s := (0, -1)) hD_10 ⟨⟨Int.le_refl _, hz.1⟩, by decide, by decide⟩ ⟨by decide, by decide⟩ hz hf) (fun v_16 h_16 q_16 => ?_)
  obtain ⟨⟨y_5, rfl, Y_5⟩, D_5, S_5⟩ := q_16
  have rn := nmM_r (f := f) (s := (0, -1)) (z := z) ⟨⟨Int.le_refl _, hz.1⟩, by decide, by decide⟩ hz.2
  obtain ⟨⟨rn1, rn2⟩, rn3, rn4⟩ := rn
  have o_16 := S_5.at (by unfold dBlk; omega) o_11
  have g1 := S_5.1
  have g2 := S_5.2.1
  unfold stO at o_16
  refine r_putf (pc := 19) dX2_readThing_19 fX2_30 o_16 (by omega) (by first | rfl | exact narrow_rf _ _) (by first | rfl | exact fits_rf _ _) (Nat.le_of_ble_eq_true rfl) ?_
  dsimp only [List.set]
  refine rg_gen (fun h_19 o_19 s_19 l_19 n_19 k_19 => ?_)
  have D_19 := D_5.keep2 l_19 (fun b hb => s_19 b (by unfold dBlk at hb; omega))
  have F_19 : FrR a h h_19 := (F_10.tr (FrR.sm S_5)).st (st := h.2.1) (Nat.le_refl _) ⟨l_19, n_19, k_19, fun b hb => s_19 b (fun q => hb (Or.inr q))⟩
  refine r_aload_n (pc := 22) dX2_readThing_22 rfl (by first | rfl | exact isRefV_rf _) ?_
  refine r_callV0 (pc := 23) dX2_readThing_23 qX2_here kX2_34 vX2_here (by first | assumption | exact isI.gx (by assumption) | exact isI.gc (by assumption) | exact isW.gx (by assumption) | exact isW.gF (by assumption) | exact isW.gT (by assumption) (by omega) | exact isW.gS (by assumption) (by omega) | exact isW.gK (by assumption) (by omega) | exact isW.g1 (by assumption) | exact isW.g2 (by assumption) | exact isW.g3 (by assumption) | exact isI.gx (isW.i0 (by assumption)) | exact isI.gc (isW.i0 (by assumption)) | exact isI.gx (isW.i1 (by assumption)) | exact isI.gc (isW.i1 (by assumption)) | exact isI.gx (isW.i2 (by assumption)) | exact isI.gc (isW.i2 (by assumption)) | exact isI.gx (isW.i3 (by assumption)) | exact isI.gc (isW.i3 (by assumption)) | exact isI.gx (isW.i4 (by assumption)) | exact isI.gc (isW.i4 (by assumption)) | exact isI.gx (isW.i5 (by assumption)) | exact isI.gc (isW.i5 (by assumption)) | exact isR.gx (by assumption) | exact isRd.gx (by assumption) | exact isSp.gx (by assumption) | exact isI.gx (isR.i (by assumption)) | exact isI.gx (isRd.i (by assumption)) | exact isI.gc (isRd.i (by assumption)) | exact isI.gx (isSp.i (by assumption)) | exact isW.gx (isR.w (by assumption)) | exact isW.gF (isR.w (by assumption)) | fail "no such object") rfl rfl (Nat.le_of_ble_eq_true rfl) (cd_here _ D_19 ⟨by omega, by omega⟩ ⟨by omega, by omega⟩ ⟨by decide, by decide⟩ ⟨by omega, by omega⟩ hf') (fun v_23 h_23 q_23 => ?_)
  obtain ⟨rfl, e_23⟩ := q_23
  have e_23 := e_23.symm
  subst e_23
  have rh := hereC_r (p := (nmM z f (0, -1)).1) (z := z) hf'
  refine rj_iconst (pc := 26) dX2_readThing_26 ?_
  refine rj_icmp_eq (pc := 27) (tgt := 46) dX2_readThing_27 (by decide) (by first | exact b01_r | exact bz_r | omega | (constructor <;> omega) | apply_assumption | (apply atF_r; assumption) | fail "no range") (by first | exact b01_r | exact bz_r | omega | (constructor <;> omega) | apply_assumption | (apply atF_r; assumption) | fail "no range") (fun c_27 => ?_) (fun c_27 => ?_)
  · refine r_aload_n (pc := 46) dX2_readThing_46 rfl (by first | rfl | exact isRefV_rf _) ?_
    refine r_getf (pc := 47) dX2_readThing_47 fX2_49 (by first | assumption | exact isI.gx (by assumption) | exact isI.gc (by assumption) | exact isW.gx (by assumption) | exact isW.gF (by assumption) | exact isW.gT (by assumption) (by omega) | exact isW.gS (by assumption) (by omega) | exact isW.gK (by assumption) (by omega) | exact isW.g1 (by assumption) | exact isW.g2 (by assumption) | exact isW.g3 (by assumption) | exact isI.gx (isW.i0 (by assumption)) | exact isI.gc (isW.i0 (by assumption)) | exact isI.gx (isW.i1 (by assumption)) | exact isI.gc (isW.i1 (by assumption)) | exact isI.gx (isW.i2 (by assumption)) | exact isI.gc (isW.i2 (by assumption)) | exact isI.gx (isW.i3 (by assumption)) | exact isI.gc (isW.i3 (by assumption)) | exact isI.gx (isW.i4 (by assumption)) | exact isI.gc (isW.i4 (by assumption)) | exact isI.gx (isW.i5 (by assumption)) | exact isI.gc (isW.i5 (by assumption)) | exact isR.gx (by assumption) | exact isRd.gx (by assumption) | exact isSp.gx (by assumption) | exact isI.gx (isR.i (by assumption)) | exact isI.gx (isRd.i (by assumption)) | exact isI.gc (isRd.i (by assumption)) | exact isI.gx (isSp.i (by assumption)) | exact isW.gx (isR.w (by assumption)) | exact isW.gF (isR.w (by assumption)) | fail "no such object") (by rfl) ?_
    refine rj_if_ge (pc := 50) (tgt := 57) dX2_readThing_50 (by decide) (by first | exact b01_r | exact bz_r | omega | (constructor <;> omega) | apply_assumption | (apply atF_r; assumption) | fail "no range") (fun c_50 => ?_) (fun c_50 => ?_)
    · refine r_null (pc := 57) dX2_readThing_57 ?_
      refine r_areturn (pc := 58) _ dX2_readThing_58 rfl (Or.inl ⟨_, rfl⟩) (by first | rfl | exact isRefV_rf _) ?_
      have ro := ren_ok (f := f) (f11 := f11) (f12 := f12) hz
      rcases ro with ⟨b, e, n1, n2, n3, n4, n5, n6, n7, n8⟩ | ⟨b, n2, n3⟩
      · exfalso
        rw [n2] at c_50
        dsimp only at c_50
        omega
      · have eT := takeR_2 (f := f) (z := z) (f11 := f11) (f12 := f12) (fun g => b g.1)
        have eW := wR_3 (len := z) (r := (decide (nameB f z (ps0 f11 f12)), nameF f z (ps0 f11 f12))) (decide_eq_false b)
        rw [n2] at D_19
        have hb := decide_eq_false b
        exact ⟨F_19, by omega, z, 0, 0, ⟨hz.1, Int.le_refl _⟩, by decide, D_19, Or.inr ⟨by rw [eT, eW]; exact hb, by rw [eT, eW]; exact n3.symm, by decide, by decide, rfl⟩⟩
    · refine r_aload_n (pc := 53) dX2_readThing_53 rfl (by first | rfl | exact isRefV_rf _) ?_
      refine r_goto (pc := 54) (tgt := 58) dX2_readThing_54 (by decide) ?_
      refine r_areturn (pc := 58) _ dX2_readThing_58 rfl (Or.inl ⟨_, rfl⟩) (by first | rfl | exact isRefV_rf _) ?_
      have ro := ren_ok (f := f) (f11 := f11) (f12 := f12) hz
      rcases ro with ⟨b, e, n1, n2, n3, n4, n5, n6, n7, n8⟩ | ⟨b, n2, n3⟩
      · rw [n2] at c_27 D_19
        dsimp only at c_27 D_19
        have he : (e : Int) = z := by
          by_cases c : (e : Int) < z
          · exfalso
            have h5 : hereC e z f = f e := by unfold hereC; rw [if_pos ⟨by omega, c, by omega⟩]; rfl
            have := hf e
            omega
          · omega
        have eT := takeR_2 (f := f) (z := z) (f11 := f11) (f12 := f12) (fun g => by have := g.2; rw [n5, he] at this; unfold hereF at this; rw [if_neg (by omega)] at this; exact absurd this (by decide))
        have eW := wR_1 (len := z) (r := (decide (nameB f z (ps0 f11 f12)), nameF f z (ps0 f11 f12))) (decide_eq_true b) (n5.trans he) n7
        have eE : takeE f z f11 f12 = e := by unfold takeE; rw [n5]; rfl
        refine ⟨F_19, by omega, e, -1, 0, ⟨by omega, by omega⟩, by decide, D_19, Or.inl ⟨by rw [eT, eW], rfl, rfl, by omega, by rw [eE]; exact n1, none, ?_, Or.inl ⟨by rw [eE]; exact he, rfl⟩⟩⟩
        rw [eE, ← n3, ← Y_5 n4]
        exact o_19
      · exfalso
        rw [n2] at c_50
        dsimp only at c_50
        omega
  · refine r_aload_n (pc := 30) dX2_readThing_30 rfl (by first | rfl | exact isRefV_rf _) ?_
    refine rj_bipush (pc := 31) dX2_readThing_31 (by decide +kernel) ?_
    refine r_callV1 (pc := 33) dX2_readThing_33 qX2_expect kX2_38 vX2_expect (by first | assumption | exact isI.gx (by assumption) | exact isI.gc (by assumption) | exact isW.gx (by assumption) | exact isW.gF (by assumption) | exact isW.gT (by assumption) (by omega) | exact isW.gS (by assumption) (by omega) | exact isW.gK (by assumption) (by omega) | exact isW.g1 (by assumption) | exact isW.g2 (by assumption) | exact isW.g3 (by assumption) | exact isI.gx (isW.i0 (by assumption)) | exact isI.gc (isW.i0 (by assumption)) | exact isI.gx (isW.i1 (by assumption)) | exact isI.gc (isW.i1 (by assumption)) | exact isI.gx (isW.i2 (by assumption)) | exact isI.gc (isW.i2 (by assumption)) | exact isI.gx (isW.i3 (by assumption)) | exact isI.gc (isW.i3 (by assumption)) | exact isI.gx (isW.i4 (by assumption)) | exact isI.gc (isW.i4 (by assumption)) | exact isI.gx (isW.i5 (by assumption)) | exact isI.gc (isW.i5 (by assumption)) | exact isR.gx (by assumption) | exact isRd.gx (by assumption) | exact isSp.gx (by assumption) | exact isI.gx (isR.i (by assumption)) | exact isI.gx (isRd.i (by assumption)) | exact isI.gc (isRd.i (by assumption)) | exact isI.gx (isSp.i (by assumption)) | exact isW.gx (isR.w (by assumption)) | exact isW.gF (isR.w (by assumption)) | fail "no such object") rfl rfl (Nat.le_of_ble_eq_true rfl) (rm_exp _ (s := nmM z f (0, -1)) D_19 ⟨⟨rn1, rn2⟩, rn3, rn4⟩ ⟨by decide, by decide⟩ hz hf (k := 61) (by decide)) (fun v_33 h_33 q_33 => ?_)
    obtain ⟨rfl, D_33, S_33⟩ := q_33
    have e_33 := S_33.1
    have i_33 := S_33.2.1
    have o_33 := S_33.at (by unfold dBlk; omega) o_19
    refine r_aload_n (pc := 36) dX2_readThing_36 rfl (by first | rfl | exact isRefV_rf _) ?_
    refine r_aload_n (pc := 37) dX2_readThing_37 rfl (by first | rfl | exact isRefV_rf _) ?_
    refine rj_iconst (pc := 38) dX2_readThing_38 ?_
    refine rj_iconst (pc := 39) dX2_readThing_39 ?_
    have ro := ren_ok (f := f) (f11 := f11) (f12 := f12) hz
    have h61 : (∃ e : Nat, nameB f z (ps0 f11 f12) ∧ namS (clip f z) 0 e ∧ nmM z f (0, -1) = ((e : Int), -1) ∧ y_5 = nmY (clip f z) 0 e ∧ (nameF f z (ps0 f11 f12)).1 = e ∧ (nameF f z (ps0 f11 f12)).2.1 = -1 ∧ (nameF f z (ps0 f11 f12)).2.2.2.2 = 0 ∧ (e : Int) < z ∧ hereF f z e = 61 ∧ xpM z f 61 (nmM z f (0, -1)) = (((e + 1 : Nat) : Int), -1)) ∨ (∃ E : Int, 0 ≤ E ∧ E ≤ 120 ∧ xpM z f 61 (nmM z f (0, -1)) = (z, E) ∧ (wR z (takeR f z f11 f12)).1 = false ∧ E = (wR z (takeR f z f11 f12)).2.2.1) := by
      rcases ro with ⟨b, e, n1, n2, n3, n4, n5, n6, n7, n8⟩ | ⟨b, n2, n3⟩
      · rw [n2]
        have lt : (e : Int) < z := by
          have := hereC_lt (p := (e : Int)) (z := z) (f := f) (by rw [n2] at c_27; exact c_27)
          exact this
        by_cases c : hereC e z f = 61
        · refine Or.inl ⟨e, b, n1, rfl, (Y_5 n4).trans n3, n5, n6, n7, lt, by rw [← hereC_f (by omega) hz.2]; exact c, ?_⟩
          unfold xpM; dsimp only; rw [if_pos c]; rfl
        · refine Or.inr ⟨e, by omega, by omega, ?_, ?_⟩
          · unfold xpM; dsimp only; rw [if_neg c, ftE_n]
          · have eT := takeR_2 (f := f) (z := z) (f11 := f11) (f12 := f12) (fun g => c (by rw [hereC_f (by omega) hz.2, ← n5]; exact g.2))
            have eW := wR_2 (len := z) (r := (decide (nameB f z (ps0 f11 f12)), nameF f z (ps0 f11 f12))) (decide_eq_true b) (fun g => by have : (nameF f z (ps0 f11 f12)).1 = z := g.1; omega)
            rw [eT, eW]
            exact ⟨rfl, n5.symm.trans (failF_v n6).symm⟩
      · refine Or.inr ⟨0, by decide, by decide, ?_, ?_⟩
        · rw [n2]; exact xpM_i (by decide) 0 (Int.le_refl _)
        · have eT := takeR_2 (f := f) (z := z) (f11 := f11) (f12 := f12) (fun g => b g.1)
          have eW := wR_3 (len := z) (r := (decide (nameB f z (ps0 f11 f12)), nameF f z (ps0 f11 f12))) (decide_eq_false b)
          rw [eT, eW]
          exact ⟨decide_eq_false b, n3.symm⟩
    rcases h61 with ⟨e, b, n1, n2, n3, n5, n6, n7, n8, n9, n10⟩ | ⟨E, m1, m2, m3, m4, m5⟩
    · rw [n10] at D_33
      refine r_callV2 (pc := 40) dX2_readThing_40 qX2_readSteps kX2_41 vX2_readSteps (by first | assumption | exact isI.gx (by assumption) | exact isI.gc (by assumption) | exact isW.gx (by assumption) | exact isW.gF (by assumption) | exact isW.gT (by assumption) (by omega) | exact isW.gS (by assumption) (by omega) | exact isW.gK (by assumption) (by omega) | exact isW.g1 (by assumption) | exact isW.g2 (by assumption) | exact isW.g3 (by assumption) | exact isI.gx (isW.i0 (by assumption)) | exact isI.gc (isW.i0 (by assumption)) | exact isI.gx (isW.i1 (by assumption)) | exact isI.gc (isW.i1 (by assumption)) | exact isI.gx (isW.i2 (by assumption)) | exact isI.gc (isW.i2 (by assumption)) | exact isI.gx (isW.i3 (by assumption)) | exact isI.gc (isW.i3 (by assumption)) | exact isI.gx (isW.i4 (by assumption)) | exact isI.gc (isW.i4 (by assumption)) | exact isI.gx (isW.i5 (by assumption)) | exact isI.gc (isW.i5 (by assumption)) | exact isR.gx (by assumption) | exact isRd.gx (by assumption) | exact isSp.gx (by assumption) | exact isI.gx (isR.i (by assumption)) | exact isI.gx (isRd.i (by assumption)) | exact isI.gc (isRd.i (by assumption)) | exact isI.gx (isSp.i (by assumption)) | exact isW.gx (isR.w (by assumption)) | exact isW.gF (isR.w (by assumption)) | fail "no such object") rfl rfl (Nat.le_of_ble_eq_true rfl) (rt_w1 (p := e + 1) (q := advF (nameF f z (ps0 f11 f12))) hz hf (by omega) (by show (nameF f z (ps0 f11 f12)).1 + 1 = _; rw [n5]; rfl) n6 n7 (by omega) D_33) (fun v_40 h_40 q_40 => ?_)
      obtain ⟨r_40, rfl, F_40, Z_40, E, O, rO, D_40, Q_40⟩ := rt_wh hz hf q_40
      have g40 := F_40.1
      have i40 := F_40.2.1
      have o_40 := (F_40.2.2.2 h.2.1 (by omega) (by unfold dBlk; omega)).trans o_33
      refine r_putf (pc := 43) dX2_readThing_43 fX2_45 o_40 (by omega) (by first | rfl | exact narrow_rf _ _) (by first | rfl | exact fits_rf _ _) (Nat.le_of_ble_eq_true rfl) ?_
      dsimp only [List.set]
      refine rg_gen (fun h_43 o_43 s_43 l_43 n_43 k_43 => ?_)
      have D_43 := D_40.keep2 l_43 (fun b hb => s_43 b (by unfold dBlk at hb; omega))
      have F_43 : FrR a h h_43 := ((F_19.tr (FrR.sm S_33)).tr F_40).st (st := h.2.1) (Nat.le_refl _) ⟨l_43, n_43, k_43, fun b hb => s_43 b (fun q => hb (Or.inr q))⟩
      have rE : InR E := by
        rcases Q_40 with ⟨-, g, -⟩ | ⟨-, -, g1, g2⟩
        · rw [g]; decide
        · exact ⟨by omega, by omega⟩
      refine r_aload_n (pc := 46) dX2_readThing_46 rfl (by first | rfl | exact isRefV_rf _) ?_
      refine r_getf (pc := 47) dX2_readThing_47 fX2_49 (by first | assumption | exact isI.gx (by assumption) | exact isI.gc (by assumption) | exact isW.gx (by assumption) | exact isW.gF (by assumption) | exact isW.gT (by assumption) (by omega) | exact isW.gS (by assumption) (by omega) | exact isW.gK (by assumption) (by omega) | exact isW.g1 (by assumption) | exact isW.g2 (by assumption) | exact isW.g3 (by assumption) | exact isI.gx (isW.i0 (by assumption)) | exact isI.gc (isW.i0 (by assumption)) | exact isI.gx (isW.i1 (by assumption)) | exact isI.gc (isW.i1 (by assumption)) | exact isI.gx (isW.i2 (by assumption)) | exact isI.gc (isW.i2 (by assumption)) | exact isI.gx (isW.i3 (by assumption)) | exact isI.gc (isW.i3 (by assumption)) | exact isI.gx (isW.i4 (by assumption)) | exact isI.gc (isW.i4 (by assumption)) | exact isI.gx (isW.i5 (by assumption)) | exact isI.gc (isW.i5 (by assumption)) | exact isR.gx (by assumption) | exact isRd.gx (by assumption) | exact isSp.gx (by assumption) | exact isI.gx (isR.i (by assumption)) | exact isI.gx (isRd.i (by assumption)) | exact isI.gc (isRd.i (by assumption)) | exact isI.gx (isSp.i (by assumption)) | exact isW.gx (isR.w (by assumption)) | exact isW.gF (isR.w (by assumption)) | fail "no such object") (by rfl) ?_
      refine rj_if_ge (pc := 50) (tgt := 57) dX2_readThing_50 (by decide) (by first | exact b01_r | exact bz_r | omega | (constructor <;> omega) | apply_assumption | (apply atF_r; assumption) | fail "no range") (fun c_50 => ?_) (fun c_50 => ?_)
      · refine r_null (pc := 57) dX2_readThing_57 ?_
        refine r_areturn (pc := 58) _ dX2_readThing_58 rfl (Or.inl ⟨_, rfl⟩) (by first | rfl | exact isRefV_rf _) ?_
        have eT := takeR_1 (f := f) (z := z) (f11 := f11) (f12 := f12) ⟨b, by rw [n5]; exact n9⟩
        rw [← eT] at Q_40
        have eE : takeE f z f11 f12 = e := by unfold takeE; rw [n5]; rfl
        rcases Q_40 with ⟨u1, u2, u3, u4, u5, N, u6⟩ | ⟨u1, u2, u3, u4⟩
        · exfalso; omega
        · exact ⟨F_43, by omega, z, E, O, ⟨hz.1, Int.le_refl _⟩, rO, D_43, Or.inr ⟨u1, u2, u3, u4, rfl⟩⟩
      · refine r_aload_n (pc := 53) dX2_readThing_53 rfl (by first | rfl | exact isRefV_rf _) ?_
        refine r_goto (pc := 54) (tgt := 58) dX2_readThing_54 (by decide) ?_
        refine r_areturn (pc := 58) _ dX2_readThing_58 rfl (Or.inl ⟨_, rfl⟩) (by first | rfl | exact isRefV_rf _) ?_
        have eT := takeR_1 (f := f) (z := z) (f11 := f11) (f12 := f12) ⟨b, by rw [n5]; exact n9⟩
        rw [← eT] at Q_40
        have eE : takeE f z f11 f12 = e := by unfold takeE; rw [n5]; rfl
        rcases Q_40 with ⟨u1, u2, u3, u4, u5, N, u6⟩ | ⟨u1, u2, u3, u4⟩
        · subst u3
          refine ⟨F_43, by omega, z, E, O, ⟨hz.1, Int.le_refl _⟩, rO, D_43, Or.inl ⟨u1, u2, rfl, by omega, by rw [eE]; exact n1, some h_33.2.1, ?_, Or.inr ⟨by rw [eE]; exact n8, ?_, h_33.2.1, N, rfl, by omega, by omega, ?_⟩⟩⟩
          · rw [eE, ← n3]
            exact o_43
          · rw [eE]
            have := here_c (sr := f) (len := z) (a := (e : Int)) (c := 61) (by omega) n9 (by decide)
            exact this
          · rw [eE]
            exact stL_c N N (Nat.le_refl _) _ _ _ _ _ _ _ (by omega) (fun b b1 b2 => s_43 b (by omega)) u6
        · exfalso; omega
    · rw [m3] at D_33
      refine r_callV2 (pc := 40) dX2_readThing_40 qX2_readSteps kX2_41 vX2_readSteps (by first | assumption | exact isI.gx (by assumption) | exact isI.gc (by assumption) | exact isW.gx (by assumption) | exact isW.gF (by assumption) | exact isW.gT (by assumption) (by omega) | exact isW.gS (by assumption) (by omega) | exact isW.gK (by assumption) (by omega) | exact isW.g1 (by assumption) | exact isW.g2 (by assumption) | exact isW.g3 (by assumption) | exact isI.gx (isW.i0 (by assumption)) | exact isI.gc (isW.i0 (by assumption)) | exact isI.gx (isW.i1 (by assumption)) | exact isI.gc (isW.i1 (by assumption)) | exact isI.gx (isW.i2 (by assumption)) | exact isI.gc (isW.i2 (by assumption)) | exact isI.gx (isW.i3 (by assumption)) | exact isI.gc (isW.i3 (by assumption)) | exact isI.gx (isW.i4 (by assumption)) | exact isI.gc (isW.i4 (by assumption)) | exact isI.gx (isW.i5 (by assumption)) | exact isI.gc (isW.i5 (by assumption)) | exact isR.gx (by assumption) | exact isRd.gx (by assumption) | exact isSp.gx (by assumption) | exact isI.gx (isR.i (by assumption)) | exact isI.gx (isRd.i (by assumption)) | exact isI.gc (isRd.i (by assumption)) | exact isI.gx (isSp.i (by assumption)) | exact isW.gx (isR.w (by assumption)) | exact isW.gF (isR.w (by assumption)) | fail "no such object") rfl rfl (Nat.le_of_ble_eq_true rfl) (rt_idle 26 (s := (z, E)) D_33 ⟨⟨hz.1, Int.le_refl _⟩, by dsimp only; omega, by dsimp only; omega⟩ ⟨by decide, by decide⟩ hz hf rfl m1 (br := 1) (by decide) (Or.inr rfl)) (fun v_40 h_40 q_40 => ?_)
      obtain ⟨rfl, D_40, S_40⟩ := q_40
      have g40 := S_40.1
      have i40 := S_40.2.1
      have o_40 := S_40.at (by unfold dBlk; omega) o_33
      refine r_putf (pc := 43) dX2_readThing_43 fX2_45 o_40 (by omega) rfl rfl (Nat.le_of_ble_eq_true rfl) ?_
      dsimp only [List.set]
      refine rg_gen (fun h_43 o_43 s_43 l_43 n_43 k_43 => ?_)
      have D_43 := D_40.keep2 l_43 (fun b hb => s_43 b (by unfold dBlk at hb; omega))
      have F_43 : FrR a h h_43 := ((F_19.tr (FrR.sm S_33)).tr (FrR.sm S_40)).st (st := h.2.1) (Nat.le_refl _) ⟨l_43, n_43, k_43, fun b hb => s_43 b (fun q => hb (Or.inr q))⟩
      refine r_aload_n (pc := 46) dX2_readThing_46 rfl (by first | rfl | exact isRefV_rf _) ?_
      refine r_getf (pc := 47) dX2_readThing_47 fX2_49 (by first | assumption | exact isI.gx (by assumption) | exact isI.gc (by assumption) | exact isW.gx (by assumption) | exact isW.gF (by assumption) | exact isW.gT (by assumption) (by omega) | exact isW.gS (by assumption) (by omega) | exact isW.gK (by assumption) (by omega) | exact isW.g1 (by assumption) | exact isW.g2 (by assumption) | exact isW.g3 (by assumption) | exact isI.gx (isW.i0 (by assumption)) | exact isI.gc (isW.i0 (by assumption)) | exact isI.gx (isW.i1 (by assumption)) | exact isI.gc (isW.i1 (by assumption)) | exact isI.gx (isW.i2 (by assumption)) | exact isI.gc (isW.i2 (by assumption)) | exact isI.gx (isW.i3 (by assumption)) | exact isI.gc (isW.i3 (by assumption)) | exact isI.gx (isW.i4 (by assumption)) | exact isI.gc (isW.i4 (by assumption)) | exact isI.gx (isW.i5 (by assumption)) | exact isI.gc (isW.i5 (by assumption)) | exact isR.gx (by assumption) | exact isRd.gx (by assumption) | exact isSp.gx (by assumption) | exact isI.gx (isR.i (by assumption)) | exact isI.gx (isRd.i (by assumption)) | exact isI.gc (isRd.i (by assumption)) | exact isI.gx (isSp.i (by assumption)) | exact isW.gx (isR.w (by assumption)) | exact isW.gF (isR.w (by assumption)) | fail "no such object") (by rfl) ?_
      refine rj_if_ge (pc := 50) (tgt := 57) dX2_readThing_50 (by decide) (by first | exact b01_r | exact bz_r | omega | (constructor <;> omega) | apply_assumption | (apply atF_r; assumption) | fail "no range") (fun c_50 => ?_) (fun c_50 => ?_)
      · refine r_null (pc := 57) dX2_readThing_57 ?_
        refine r_areturn (pc := 58) _ dX2_readThing_58 rfl (Or.inl ⟨_, rfl⟩) (by first | rfl | exact isRefV_rf _) ?_
        exact ⟨F_43, by omega, z, E, 0, ⟨hz.1, Int.le_refl _⟩, by decide, D_43, Or.inr ⟨m4, m5, m1, m2, rfl⟩⟩
      · refine r_aload_n (pc := 53) dX2_readThing_53 rfl (by first | rfl | exact isRefV_rf _) ?_
        refine r_goto (pc := 54) (tgt := 58) dX2_readThing_54 (by decide) ?_
        refine r_areturn (pc := 58) _ dX2_readThing_58 rfl (Or.inl ⟨_, rfl⟩) (by first | rfl | exact isRefV_rf _) ?_
        exfalso; omega
end mg_9u

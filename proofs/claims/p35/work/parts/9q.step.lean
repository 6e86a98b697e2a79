/-! ===== the class: its reader's small ones, one outcome each; a step by its kind ===== -/
def rgS (z : Int) (s : Int × Int) : Prop := (0 ≤ s.1 ∧ s.1 ≤ z) ∧ -1 ≤ s.2 ∧ s.2 ≤ 120
theorem hereC_lt {p z : Int} {f : Nat → Int} (h : ¬ hereC p z f = -1) : p < z := by
  unfold hereC at h
  split at h
  · rename_i c; exact c.2.1
  · exact absurd rfl h
theorem rfL_z {z : Int} {f : Nat → Int} : ∀ (n : Nat) (p u : Int), p ≤ z → (rfL z f n p u).2 ≤ z
  | 0, p, u, h => h
  | n + 1, p, u, h => by
    unfold rfL
    split
    · rename_i c
      have := hereC_lt (f := f) (p := p) (z := z) (by omega)
      exact rfL_z n (p + 1) _ (by omega)
    · exact h
theorem rnL_le {z : Int} {f : Nat → Int} : ∀ (n : Nat) (p : Int) (y : Int64), p ≤ z → (rnL z f n p y).2 ≤ z
  | 0, p, y, h => h
  | n + 1, p, y, h => by
    unfold rnL
    split
    · rename_i c
      have := hereC_lt (f := f) (p := p) (z := z) (by omega)
      exact rnL_le n (p + 1) _ (by omega)
    · exact rnL_le n p _ h
section RGS
variable {z : Int} {f : Nat → Int} {s : Int × Int}
theorem ftE_g {e i : Int} (he : -1 ≤ e ∧ e ≤ 120) (hi : 0 ≤ i ∧ i ≤ 120) : -1 ≤ ftE e i ∧ ftE e i ≤ 120 := by unfold ftE; split <;> omega
theorem fgM_r {k : Int} (h : rgS z s) (hz : z ≤ 120) (hk : 0 ≤ k) : rgS z (fgM z f k s) := by
  obtain ⟨h1, h2⟩ := h
  unfold fgM
  split
  · rename_i c
    have := hereC_lt (f := f) (p := s.1) (z := z) (by omega)
    exact ⟨⟨by dsimp only; omega, by dsimp only; omega⟩, h2⟩
  · exact ⟨⟨by dsimp only; omega, by dsimp only; omega⟩, ftE_g h2 (by omega)⟩
theorem xpM_r {k : Int} (h : rgS z s) (hz : z ≤ 120) (hk : ¬ k = -1) : rgS z (xpM z f k s) := by
  obtain ⟨h1, h2⟩ := h
  unfold xpM
  split
  · rename_i c
    have := hereC_lt (f := f) (p := s.1) (z := z) (by omega)
    exact ⟨⟨by dsimp only; omega, by dsimp only; omega⟩, h2⟩
  · exact ⟨⟨by dsimp only; omega, by dsimp only; omega⟩, ftE_g h2 (by omega)⟩
theorem fsM_r {m : Nat} (h : rgS z s) (hz : z ≤ 120) : rgS z (fsM z f m s) := by
  obtain ⟨h1, h2⟩ := h
  have a := rfL_z (f := f) m s.1 0 h1.2
  unfold fsM
  split
  · exact ⟨⟨by dsimp only; omega, by dsimp only; omega⟩, h2⟩
  · exact ⟨⟨by dsimp only; omega, by dsimp only; omega⟩, ftE_g h2 (by omega)⟩
theorem mnP_r (h : 0 ≤ s.1 ∧ s.1 ≤ z) : 0 ≤ mnP s.1 z f ∧ mnP s.1 z f ≤ z := by
  unfold mnP
  split
  · have := hereC_lt (f := f) (p := s.1) (z := z) (by omega)
    omega
  · exact h
theorem vlM_r (h : rgS z s) (hz : z ≤ 120) : rgS z (vlM z f s) := by
  obtain ⟨h1, h2⟩ := h
  have m := mnP_r (f := f) h1
  have a := rfL_z (f := f) 5 (mnP s.1 z f) 0 m.2
  unfold vlM
  split
  · exact ⟨⟨by dsimp only; omega, by dsimp only; omega⟩, h2⟩
  · exact ⟨⟨by dsimp only; omega, by dsimp only; omega⟩, ftE_g h2 (by omega)⟩
theorem fnM_r (h : rgS z s) (hz : z ≤ 120) : rgS z (fnM z f s) := by
  obtain ⟨h1, h2⟩ := h
  have a := rfL_z (f := f) 2 s.1 0 h1.2
  unfold fnM
  split
  · exact ⟨⟨by dsimp only; omega, by dsimp only; omega⟩, h2⟩
  · exact ⟨⟨by dsimp only; omega, by dsimp only; omega⟩, ftE_g h2 (by omega)⟩
theorem nmM_r (h : rgS z s) (hz : z ≤ 120) : rgS z (nmM z f s) := by
  obtain ⟨h1, h2⟩ := h
  have a := rnL_le (f := f) 7 s.1 0 h1.2
  have b := rnL_p (f := f) (z := z) 7 s.1 0
  unfold nmM
  split
  · exact ⟨⟨by dsimp only; omega, by dsimp only; omega⟩, h2⟩
  · exact ⟨⟨by dsimp only; omega, by dsimp only; omega⟩, ftE_g h2 (by omega)⟩
end RGS
theorem rm_fig {G : mG} {l : Launch} (d : Nat) {h : mH} {a : Nat} {s : Int × Int} {o z : Int} {f : Nat → Int} (hD : isRd h a s.1 s.2 o z f) (hs : rgS z s) (ho : InR o) (hz : 0 ≤ z ∧ z ≤ 120) (hf : bytesOk f) {k : Int} (hk : 0 ≤ k ∧ k ≤ 10) : RUNM G l (d + 1) mX2_readFigure [.ref a, .int (J k)] h (fun v h' => v = some (.int (J (fgU z f k s.1))) ∧ isRd h' a (fgM z f k s).1 (fgM z f k s).2 o z f ∧ Same (dBlk a) h h') := by
  obtain ⟨⟨h1, h2⟩, h3, h4⟩ := hs
  have hf' : ∀ q, InR (f q) := fun q => by have := hf q; exact ⟨by omega, by omega⟩
  have hp : InR s.1 := ⟨by omega, by omega⟩
  have he : InR s.2 := ⟨by omega, by omega⟩
  have hz' : InR z := ⟨by omega, by omega⟩
  have hh : -1 ≤ hereC s.1 z f := by
    unfold hereC; split
    · have := hf s.1.toNat; omega
    · omega
  refine (rd_figure d hD hp he ho hz' hf' (k := k) ⟨by omega, by omega⟩ hk hh).mono (fun v h' g => ?_)
  unfold fgU fgM
  rcases g with ⟨c, g1, g2, g3⟩ | ⟨c, g1, g2, g3⟩
  · rw [if_pos c, if_pos c]; exact ⟨g1, g2, g3⟩
  · rw [if_neg c, if_neg c]; exact ⟨g1, g2, g3⟩
theorem rm_exp {G : mG} {l : Launch} (d : Nat) {h : mH} {a : Nat} {s : Int × Int} {o z : Int} {f : Nat → Int} (hD : isRd h a s.1 s.2 o z f) (hs : rgS z s) (ho : InR o) (hz : 0 ≤ z ∧ z ≤ 120) (hf : bytesOk f) {k : Int} (hk : InR k) : RUNM G l (d + 1) mX2_expect [.ref a, .int (J k)] h (fun v h' => v = none ∧ isRd h' a (xpM z f k s).1 (xpM z f k s).2 o z f ∧ Same (dBlk a) h h') := by
  obtain ⟨⟨h1, h2⟩, h3, h4⟩ := hs
  have hf' : ∀ q, InR (f q) := fun q => by have := hf q; exact ⟨by omega, by omega⟩
  have hp : InR s.1 := ⟨by omega, by omega⟩
  have he : InR s.2 := ⟨by omega, by omega⟩
  have hz' : InR z := ⟨by omega, by omega⟩
  have hh : -1 ≤ hereC s.1 z f := by
    unfold hereC; split
    · have := hf s.1.toNat; omega
    · omega
  refine (rd_expect d hD hp he ho hz' hf' hk).mono (fun v h' g => ?_)
  unfold xpM
  obtain ⟨g1, ⟨c, g2⟩ | ⟨c, g2⟩, g3⟩ := g
  · rw [if_pos c]; exact ⟨g1, g2, g3⟩
  · rw [if_neg c]; exact ⟨g1, g2, g3⟩
theorem rm_figs {G : mG} {l : Launch} (d : Nat) {h : mH} {a : Nat} {s : Int × Int} {o z : Int} {f : Nat → Int} (hD : isRd h a s.1 s.2 o z f) (hs : rgS z s) (ho : InR o) (hz : 0 ≤ z ∧ z ≤ 120) (hf : bytesOk f) : RUNM G l (d + 1) mX2_readFigures [.ref a, .int (J 2)] h (fun v h' => v = some (.int (J (rfL z f 2 s.1 0).1)) ∧ isRd h' a (fsM z f 2 s).1 (fsM z f 2 s).2 o z f ∧ Same (dBlk a) h h') := by
  obtain ⟨⟨h1, h2⟩, h3, h4⟩ := hs
  have hf' : ∀ q, InR (f q) := fun q => by have := hf q; exact ⟨by omega, by omega⟩
  have hp : InR s.1 := ⟨by omega, by omega⟩
  have he : InR s.2 := ⟨by omega, by omega⟩
  have hz' : InR z := ⟨by omega, by omega⟩
  have hh : -1 ≤ hereC s.1 z f := by
    unfold hereC; split
    · have := hf s.1.toNat; omega
    · omega
  refine (rd_figures d hD hp he ho hz' hf' ⟨by omega, by omega⟩ (m := 2) (by decide)).mono (fun v h' g => ?_)
  unfold fsM
  obtain ⟨g1, ⟨c, g2⟩ | ⟨c, g2⟩, g3⟩ := g
  · rw [if_pos c]; exact ⟨g1, g2, g3⟩
  · rw [if_neg (by omega)]; exact ⟨g1, g2, g3⟩
theorem rm_val {G : mG} {l : Launch} (d : Nat) {h : mH} {a : Nat} {s : Int × Int} {o z : Int} {f : Nat → Int} (hD : isRd h a s.1 s.2 o z f) (hs : rgS z s) (ho : InR o) (hz : 0 ≤ z ∧ z ≤ 120) (hf : bytesOk f) : RUNM G l (d + 2) mX2_readValue [.ref a] h (fun v h' => v = some (.int (J (rvV s.1 z f))) ∧ isRd h' a (vlM z f s).1 (vlM z f s).2 o z f ∧ Same (dBlk a) h h') := by
  obtain ⟨⟨h1, h2⟩, h3, h4⟩ := hs
  have hf' : ∀ q, InR (f q) := fun q => by have := hf q; exact ⟨by omega, by omega⟩
  have hp : InR s.1 := ⟨by omega, by omega⟩
  have he : InR s.2 := ⟨by omega, by omega⟩
  have hz' : InR z := ⟨by omega, by omega⟩
  have hh : -1 ≤ hereC s.1 z f := by
    unfold hereC; split
    · have := hf s.1.toNat; omega
    · omega
  refine (rd_value d hD hp he ho hz' hf' ⟨by omega, by omega⟩).mono (fun v h' g => ?_)
  unfold vlM
  obtain ⟨g1, ⟨c, g2⟩ | ⟨c, g2⟩, g3⟩ := g
  · rw [if_pos c]; exact ⟨g1, g2, g3⟩
  · rw [if_neg (by omega)]; exact ⟨g1, g2, g3⟩
theorem rm_fn {G : mG} {l : Launch} (d : Nat) {h : mH} {a : Nat} {s : Int × Int} {o z : Int} {f : Nat → Int} (hD : isRd h a s.1 s.2 o z f) (hs : rgS z s) (ho : InR o) (hz : 0 ≤ z ∧ z ≤ 120) (hf : bytesOk f) : RUNM G l (d + 2) mX2_readFaultNumber [.ref a] h (fun v h' => v = some (.int (J (rfL z f 2 s.1 0).1)) ∧ isRd h' a (fnM z f s).1 (fnM z f s).2 o z f ∧ Same (dBlk a) h h') := by
  obtain ⟨⟨h1, h2⟩, h3, h4⟩ := hs
  have hf' : ∀ q, InR (f q) := fun q => by have := hf q; exact ⟨by omega, by omega⟩
  have hp : InR s.1 := ⟨by omega, by omega⟩
  have he : InR s.2 := ⟨by omega, by omega⟩
  have hz' : InR z := ⟨by omega, by omega⟩
  have hh : -1 ≤ hereC s.1 z f := by
    unfold hereC; split
    · have := hf s.1.toNat; omega
    · omega
  have hr0 : InR (rfL z f 2 s.1 0).1 := by
    have e := rfL_n (f := f) hz.2 2 (s.1, 0, 0, 0, 0) h1
    dsimp only at e
    have b := numL_v (f := f) (z := z) 2 (s.1, 0, 0, 0, 0) (Int.le_refl _)
    dsimp only at b
    rw [show ((0 : Int) + 1) * tenP 2 = 100 by decide] at b
    rw [e]; exact ⟨by dsimp only; omega, by dsimp only; omega⟩
  refine (rd_faultNumber d hD hp he ho hz' hf' ⟨by omega, by omega⟩ hr0).mono (fun v h' g => ?_)
  unfold fnM
  obtain ⟨g1, ⟨c, c2, g2⟩ | ⟨c, g2⟩, g3⟩ := g
  · rw [if_pos ⟨c, c2⟩]; exact ⟨g1, g2, g3⟩
  · rw [if_neg (fun g => by rcases c with c | c; omega; exact g.2 c)]; exact ⟨g1, g2, g3⟩
theorem rm_name {G : mG} {l : Launch} (d : Nat) {h : mH} {a : Nat} {s : Int × Int} {o z : Int} {f : Nat → Int} (hD : isRd h a s.1 s.2 o z f) (hs : rgS z s) (ho : InR o) (hz : 0 ≤ z ∧ z ≤ 120) (hf : bytesOk f) : RUNM G l (d + 1) mX2_readName [.ref a] h (fun v h' => (∃ y, v = some (.long y) ∧ ((97 ≤ hereC s.1 z f ∧ hereC s.1 z f ≤ 122) → y = (rnL z f 7 s.1 0).1)) ∧ isRd h' a (nmM z f s).1 (nmM z f s).2 o z f ∧ Same (dBlk a) h h') := by
  obtain ⟨⟨h1, h2⟩, h3, h4⟩ := hs
  have hf' : ∀ q, InR (f q) := fun q => by have := hf q; exact ⟨by omega, by omega⟩
  have hp : InR s.1 := ⟨by omega, by omega⟩
  have he : InR s.2 := ⟨by omega, by omega⟩
  have hz' : InR z := ⟨by omega, by omega⟩
  have hh : -1 ≤ hereC s.1 z f := by
    unfold hereC; split
    · have := hf s.1.toNat; omega
    · omega
  refine (rd_name d hD hp he ho hz' hf' ⟨by omega, by omega⟩ hz).mono (fun v h' g => ?_)
  unfold nmM
  rcases g with ⟨c, g1, g2, g3⟩ | ⟨c, ⟨y, g1⟩, g2, g3⟩
  · rw [if_pos c]; exact ⟨⟨_, g1, fun _ => rfl⟩, g2, g3⟩
  · rw [if_neg c]; exact ⟨⟨y, g1, fun q => absurd q c⟩, g2, g3⟩
set_option maxHeartbeats 4000000 in
set_option maxRecDepth 100000 in
theorem rs_sw {G : mG} {l : Launch} (d : Nat) {h : mH} {a : Nat} {p e o z : Int} {f : Nat → Int} (hD : isRd h a p e o z f) (hp : InR p) (he : InR e) (ho : InR o) (hz : InR z) (hf : ∀ q, InR (f q)) (ha : a + 3 ≤ h.2.1) {br gd kd : Int} (hbr : InR br) (hgd : InR gd) (hkd : hereC p z f = kd) (hm : mbP kd br gd o) {Q : Option Value → mH → Prop} (T : ∀ (tgt : Nat) (h1 : mH), ((kd = 43 ∧ tgt = 128) ∨ (kd = 33 ∧ tgt = 157) ∨ (kd = 97 ∧ tgt = 169) ∨ (kd = 120 ∧ tgt = 191) ∨ (kd = 109 ∧ tgt = 203) ∨ (kd = 107 ∧ tgt = 231) ∨ (kd = 63 ∧ tgt = 245) ∨ (kd = 40 ∧ tgt = 291) ∨ (kd = 41 ∧ tgt = 304) ∨ ((¬ kd = 43 ∧ ¬ kd = 33 ∧ ¬ kd = 97 ∧ ¬ kd = 120 ∧ ¬ kd = 109 ∧ ¬ kd = 107 ∧ ¬ kd = 63 ∧ ¬ kd = 40 ∧ ¬ kd = 41) ∧ tgt = 317)) → isRd h1 a (p + 1) e o z f → hGet h1 h.2.1 = some (stO kd 0 0 0 none none) → h1.1 = h.1 → h1.2.1 = h.2.1 + 1 → h1.2.2.1 = h.2.2.1 + 6 → (∀ b, b < h.2.1 → ¬ dBlk a b → hGet h1 b = hGet h b) → RUN G l (d + 2) mX2_readStep tgt [some (.ref a), some (.int (J br)), some (.int (J gd)), some (.int (J kd)), some (.ref h.2.1)] [] h1 Q) : RUNM G l (d + 2) mX2_readStep [.ref a, .int (J br), .int (J gd)] h Q := by
  refine RUNM.of (by decide +kernel) (Nat.le_of_ble_eq_true rfl) ?_
  have hkr : InR kd := by rw [← hkd]; exact hereC_r hf
  refine r_aload_n (pc := 0) dX2_readStep_0 rfl (by first | rfl | exact isRefV_rf _) ?_
  refine r_callV0 (pc := 1) dX2_readStep_1 qX2_here kX2_34 vX2_here (by first | assumption | exact isI.gx (by assumption) | exact isI.gc (by assumption) | exact isW.gx (by assumption) | exact isW.gF (by assumption) | exact isW.gT (by assumption) (by omega) | exact isW.gS (by assumption) (by omega) | exact isW.gK (by assumption) (by omega) | exact isW.g1 (by assumption) | exact isW.g2 (by assumption) | exact isW.g3 (by assumption) | exact isI.gx (isW.i0 (by assumption)) | exact isI.gc (isW.i0 (by assumption)) | exact isI.gx (isW.i1 (by assumption)) | exact isI.gc (isW.i1 (by assumption)) | exact isI.gx (isW.i2 (by assumption)) | exact isI.gc (isW.i2 (by assumption)) | exact isI.gx (isW.i3 (by assumption)) | exact isI.gc (isW.i3 (by assumption)) | exact isI.gx (isW.i4 (by assumption)) | exact isI.gc (isW.i4 (by assumption)) | exact isI.gx (isW.i5 (by assumption)) | exact isI.gc (isW.i5 (by assumption)) | exact isR.gx (by assumption) | exact isRd.gx (by assumption) | exact isSp.gx (by assumption) | exact isI.gx (isR.i (by assumption)) | exact isI.gx (isRd.i (by assumption)) | exact isI.gc (isRd.i (by assumption)) | exact isI.gx (isSp.i (by assumption)) | exact isW.gx (isR.w (by assumption)) | exact isW.gF (isR.w (by assumption)) | fail "no such object") rfl rfl (Nat.le_of_ble_eq_true rfl) (cd_here _ hD hp he ho hz hf) (fun v_1 h_1 q_1 => ?_)
  obtain ⟨rfl, e_1⟩ := q_1
  have e_1 := e_1.symm
  subst e_1
  rw [hkd]
  refine r_istore_n (pc := 4) dX2_readStep_4 (Nat.le_of_ble_eq_true rfl) ?_
  dsimp only [lsSt, List.set, mLs, mEnt]
  refine r_aload_n (pc := 5) dX2_readStep_5 rfl (by first | rfl | exact isRefV_rf _) ?_
  refine r_iload_n (pc := 6) dX2_readStep_6 rfl ?_
  refine r_iload_n (pc := 7) dX2_readStep_7 rfl ?_
  refine r_iload_n (pc := 8) dX2_readStep_8 rfl ?_
  refine r_callV3 (pc := 9) dX2_readStep_9 qX2_mayBegin kX2_76 vX2_mayBegin (by first | assumption | exact isI.gx (by assumption) | exact isI.gc (by assumption) | exact isW.gx (by assumption) | exact isW.gF (by assumption) | exact isW.gT (by assumption) (by omega) | exact isW.gS (by assumption) (by omega) | exact isW.gK (by assumption) (by omega) | exact isW.g1 (by assumption) | exact isW.g2 (by assumption) | exact isW.g3 (by assumption) | exact isI.gx (isW.i0 (by assumption)) | exact isI.gc (isW.i0 (by assumption)) | exact isI.gx (isW.i1 (by assumption)) | exact isI.gc (isW.i1 (by assumption)) | exact isI.gx (isW.i2 (by assumption)) | exact isI.gc (isW.i2 (by assumption)) | exact isI.gx (isW.i3 (by assumption)) | exact isI.gc (isW.i3 (by assumption)) | exact isI.gx (isW.i4 (by assumption)) | exact isI.gc (isW.i4 (by assumption)) | exact isI.gx (isW.i5 (by assumption)) | exact isI.gc (isW.i5 (by assumption)) | exact isR.gx (by assumption) | exact isRd.gx (by assumption) | exact isSp.gx (by assumption) | exact isI.gx (isR.i (by assumption)) | exact isI.gx (isRd.i (by assumption)) | exact isI.gc (isRd.i (by assumption)) | exact isI.gx (isSp.i (by assumption)) | exact isW.gx (isR.w (by assumption)) | exact isW.gF (isR.w (by assumption)) | fail "no such object") rfl rfl (Nat.le_of_ble_eq_true rfl) (rd_mayBegin _ hD ho (k := kd) hkr hbr hgd) (fun v_9 h_9 q_9 => ?_)
  obtain ⟨q_9b, -, e_9⟩ := q_9
  have e_9 := e_9.symm
  subst e_9
  obtain rfl := q_9b hm
  refine rj_if_ne (pc := 12) (tgt := 25) dX2_readStep_12 (by decide) (by first | exact b01_r | exact bz_r | omega | (constructor <;> omega) | apply_assumption | (apply atF_r; assumption) | fail "no range") (fun c_12 => ?_) (fun c_12 => ?_)
  · try simp only [b01_0, bz_0, Classical.not_not] at c_12
    refine r_aload_n (pc := 25) dX2_readStep_25 rfl (by first | rfl | exact isRefV_rf _) ?_
    refine r_dup (pc := 26) dX2_readStep_26 (by first | rfl | (cases ‹Option Nat› <;> rfl)) ?_
    refine r_getf (pc := 27) dX2_readStep_27 fX2_53 (by first | assumption | exact isI.gx (by assumption) | exact isI.gc (by assumption) | exact isW.gx (by assumption) | exact isW.gF (by assumption) | exact isW.gT (by assumption) (by omega) | exact isW.gS (by assumption) (by omega) | exact isW.gK (by assumption) (by omega) | exact isW.g1 (by assumption) | exact isW.g2 (by assumption) | exact isW.g3 (by assumption) | exact isI.gx (isW.i0 (by assumption)) | exact isI.gc (isW.i0 (by assumption)) | exact isI.gx (isW.i1 (by assumption)) | exact isI.gc (isW.i1 (by assumption)) | exact isI.gx (isW.i2 (by assumption)) | exact isI.gc (isW.i2 (by assumption)) | exact isI.gx (isW.i3 (by assumption)) | exact isI.gc (isW.i3 (by assumption)) | exact isI.gx (isW.i4 (by assumption)) | exact isI.gc (isW.i4 (by assumption)) | exact isI.gx (isW.i5 (by assumption)) | exact isI.gc (isW.i5 (by assumption)) | exact isR.gx (by assumption) | exact isRd.gx (by assumption) | exact isSp.gx (by assumption) | exact isI.gx (isR.i (by assumption)) | exact isI.gx (isRd.i (by assumption)) | exact isI.gc (isRd.i (by assumption)) | exact isI.gx (isSp.i (by assumption)) | exact isW.gx (isR.w (by assumption)) | exact isW.gF (isR.w (by assumption)) | fail "no such object") (by rfl) ?_
    refine rj_iconst (pc := 30) dX2_readStep_30 ?_
    refine rj_iadd (pc := 31) dX2_readStep_31 ?_
    refine rc_putD1 (pc := 32) dX2_readStep_32 fX2_53 (by assumption) (fun h_32 hW_32 hS_32 => ?_)
    refine rg_newC (pc := 35) (z := h.2.1) dX2_readStep_35 cX2_23 hS_32.2.1 (fun h_35 o_35 s_35 l_35 n_35 k_35 => ?_)
    have ll := hD.lo
    have e1 := hS_32.1
    have e2 := hS_32.2.1
    have e3 := hS_32.2.2.1
    have hD_35 := hW_32.keep2 (h' := h_35) l_35 (fun b hb => s_35 b (by unfold dBlk at hb; omega))
    refine r_dup (pc := 38) dX2_readStep_38 (by first | rfl | (cases ‹Option Nat› <;> rfl)) ?_
    refine r_iload_n (pc := 39) dX2_readStep_39 rfl ?_
    refine r_callI1 (pc := 40) dX2_readStep_40 qX6_init rfl kX2_25 rfl iX6_init (Nat.le_of_ble_eq_true rfl) (k_X6 _ o_35 (by omega)) (fun v_40 h_40 q_40 => ?_)
    obtain ⟨rfl, o_40, S_40⟩ := q_40
    have hD_40 := hD_35.keep2 S_40.1 (fun b hb => S_40.2.2.2 b (by unfold dBlk at hb; omega))
    have f1 := S_40.1
    have f2 := S_40.2.1
    have f3 := S_40.2.2.1
    have o_41 : hGet h_40 h.2.1 = some (stO kd 0 0 0 none none) := by unfold stO; rw [← J_0]; exact o_40
    refine r_astore (pc := 43) dX2_readStep_43 (Nat.le_of_ble_eq_true rfl) (by first | rfl | exact isRefV_rf _) ?_
    dsimp only [lsSt, List.set, mLs, mEnt]
    refine r_iload_n (pc := 45) dX2_readStep_45 rfl ?_
    refine rj_lsw (pc := 46) dX2_readStep_46 rfl (by first | exact b01_r | exact bz_r | omega | (constructor <;> omega) | apply_assumption | (apply atF_r; assumption) | fail "no range") (lsw_pos _ (by decide +kernel) (by decide +kernel)) (fun off_46 tgt_46 ho_46 ht_46 => ?_)
    simp only [Op.lookupswitch.offset_cons, Op.lookupswitch.offset_nil] at ho_46
    by_cases e_46_33 : (33 : Int) = kd
    · rw [if_pos e_46_33] at ho_46
      obtain rfl : tgt_46 = 157 := by omega
      exact T 157 h_40 (Or.inr (Or.inl ⟨e_46_33.symm, rfl⟩)) hD_40 o_41 (by omega) (by omega) (by omega) (fun b hb hn => (S_40.2.2.2 b (by omega)).trans ((s_35 b (by omega)).trans (hS_32.2.2.2 b hn)))
    rw [if_neg e_46_33] at ho_46
    by_cases e_46_40 : (40 : Int) = kd
    · rw [if_pos e_46_40] at ho_46
      obtain rfl : tgt_46 = 291 := by omega
      exact T 291 h_40 (Or.inr (Or.inr (Or.inr (Or.inr (Or.inr (Or.inr (Or.inr (Or.inl ⟨e_46_40.symm, rfl⟩)))))))) hD_40 o_41 (by omega) (by omega) (by omega) (fun b hb hn => (S_40.2.2.2 b (by omega)).trans ((s_35 b (by omega)).trans (hS_32.2.2.2 b hn)))
    rw [if_neg e_46_40] at ho_46
    by_cases e_46_41 : (41 : Int) = kd
    · rw [if_pos e_46_41] at ho_46
      obtain rfl : tgt_46 = 304 := by omega
      exact T 304 h_40 (Or.inr (Or.inr (Or.inr (Or.inr (Or.inr (Or.inr (Or.inr (Or.inr (Or.inl ⟨e_46_41.symm, rfl⟩))))))))) hD_40 o_41 (by omega) (by omega) (by omega) (fun b hb hn => (S_40.2.2.2 b (by omega)).trans ((s_35 b (by omega)).trans (hS_32.2.2.2 b hn)))
    rw [if_neg e_46_41] at ho_46
    by_cases e_46_43 : (43 : Int) = kd
    · rw [if_pos e_46_43] at ho_46
      obtain rfl : tgt_46 = 128 := by omega
      exact T 128 h_40 (Or.inl ⟨e_46_43.symm, rfl⟩) hD_40 o_41 (by omega) (by omega) (by omega) (fun b hb hn => (S_40.2.2.2 b (by omega)).trans ((s_35 b (by omega)).trans (hS_32.2.2.2 b hn)))
    rw [if_neg e_46_43] at ho_46
    by_cases e_46_63 : (63 : Int) = kd
    · rw [if_pos e_46_63] at ho_46
      obtain rfl : tgt_46 = 245 := by omega
      exact T 245 h_40 (Or.inr (Or.inr (Or.inr (Or.inr (Or.inr (Or.inr (Or.inl ⟨e_46_63.symm, rfl⟩))))))) hD_40 o_41 (by omega) (by omega) (by omega) (fun b hb hn => (S_40.2.2.2 b (by omega)).trans ((s_35 b (by omega)).trans (hS_32.2.2.2 b hn)))
    rw [if_neg e_46_63] at ho_46
    by_cases e_46_97 : (97 : Int) = kd
    · rw [if_pos e_46_97] at ho_46
      obtain rfl : tgt_46 = 169 := by omega
      exact T 169 h_40 (Or.inr (Or.inr (Or.inl ⟨e_46_97.symm, rfl⟩))) hD_40 o_41 (by omega) (by omega) (by omega) (fun b hb hn => (S_40.2.2.2 b (by omega)).trans ((s_35 b (by omega)).trans (hS_32.2.2.2 b hn)))
    rw [if_neg e_46_97] at ho_46
    by_cases e_46_107 : (107 : Int) = kd
    · rw [if_pos e_46_107] at ho_46
      obtain rfl : tgt_46 = 231 := by omega
      exact T 231 h_40 (Or.inr (Or.inr (Or.inr (Or.inr (Or.inr (Or.inl ⟨e_46_107.symm, rfl⟩)))))) hD_40 o_41 (by omega) (by omega) (by omega) (fun b hb hn => (S_40.2.2.2 b (by omega)).trans ((s_35 b (by omega)).trans (hS_32.2.2.2 b hn)))
    rw [if_neg e_46_107] at ho_46
    by_cases e_46_109 : (109 : Int) = kd
    · rw [if_pos e_46_109] at ho_46
      obtain rfl : tgt_46 = 203 := by omega
      exact T 203 h_40 (Or.inr (Or.inr (Or.inr (Or.inr (Or.inl ⟨e_46_109.symm, rfl⟩))))) hD_40 o_41 (by omega) (by omega) (by omega) (fun b hb hn => (S_40.2.2.2 b (by omega)).trans ((s_35 b (by omega)).trans (hS_32.2.2.2 b hn)))
    rw [if_neg e_46_109] at ho_46
    by_cases e_46_120 : (120 : Int) = kd
    · rw [if_pos e_46_120] at ho_46
      obtain rfl : tgt_46 = 191 := by omega
      exact T 191 h_40 (Or.inr (Or.inr (Or.inr (Or.inl ⟨e_46_120.symm, rfl⟩)))) hD_40 o_41 (by omega) (by omega) (by omega) (fun b hb hn => (S_40.2.2.2 b (by omega)).trans ((s_35 b (by omega)).trans (hS_32.2.2.2 b hn)))
    rw [if_neg e_46_120] at ho_46
    obtain rfl : tgt_46 = 317 := by omega
    exact T 317 h_40 (Or.inr (Or.inr (Or.inr (Or.inr (Or.inr (Or.inr (Or.inr (Or.inr (Or.inr (⟨⟨fun g => e_46_43 g.symm, fun g => e_46_33 g.symm, fun g => e_46_97 g.symm, fun g => e_46_120 g.symm, fun g => e_46_109 g.symm, fun g => e_46_107 g.symm, fun g => e_46_63 g.symm, fun g => e_46_40 g.symm, fun g => e_46_41 g.symm⟩, rfl⟩)))))))))) hD_40 o_41 (by omega) (by omega) (by omega) (fun b hb hn => (S_40.2.2.2 b (by omega)).trans ((s_35 b (by omega)).trans (hS_32.2.2.2 b hn)))
  · try simp only [b01_0, bz_0, Classical.not_not] at c_12
    all_goals (first | exact absurd trivial ‹¬ True› | (exfalso; omega))
set_option maxHeartbeats 4000000 in
set_option maxRecDepth 100000 in
theorem rk_plus {G : mG} {l : Launch} (d : Nat) {h : mH} {a st : Nat} {s : Int × Int} {o z br gd kd : Int} {f : Nat → Int} {y0 : Int64} {n0 v0 : Int} {i0 nx : Option Nat} (hD : isRd h a s.1 s.2 o z f) (hs : rgS z s) (ho : InR o) (hz : 0 ≤ z ∧ z ≤ 120) (hf : bytesOk f) (hst : ¬ dBlk a st) (hlo : h.1 ≤ st) (hO : hGet h st = some (stO kd n0 v0 y0 i0 nx)) : RUN G l (d + 3) mX2_readStep 128 [some (.ref a), some (.int (J br)), some (.int (J gd)), some (.int (J kd)), some (.ref st)] [] h (fun v h' => v = some (.ref st) ∧ isRd h' a (vlM z f (xpM z f 61 (fgM z f 8 s))).1 (vlM z f (xpM z f 61 (fgM z f 8 s))).2 o z f ∧ hGet h' st = some (stO kd (fgU z f 8 s.1) (rvV (xpM z f 61 (fgM z f 8 s)).1 z f) y0 i0 nx) ∧ Same (fun b => dBlk a b ∨ b = st) h h') := by
  refine r_aload (pc := 128) dX2_readStep_128 rfl (by first | rfl | exact isRefV_rf _) ?_
  refine r_aload_n (pc := 130) dX2_readStep_130 rfl (by first | rfl | exact isRefV_rf _) ?_
  refine rj_bipush (pc := 131) dX2_readStep_131 (by decide +kernel) ?_
  refine r_callV1 (pc := 133) dX2_readStep_133 qX2_readFigure kX2_80 vX2_readFigure (by first | assumption | exact isI.gx (by assumption) | exact isI.gc (by assumption) | exact isW.gx (by assumption) | exact isW.gF (by assumption) | exact isW.gT (by assumption) (by omega) | exact isW.gS (by assumption) (by omega) | exact isW.gK (by assumption) (by omega) | exact isW.g1 (by assumption) | exact isW.g2 (by assumption) | exact isW.g3 (by assumption) | exact isI.gx (isW.i0 (by assumption)) | exact isI.gc (isW.i0 (by assumption)) | exact isI.gx (isW.i1 (by assumption)) | exact isI.gc (isW.i1 (by assumption)) | exact isI.gx (isW.i2 (by assumption)) | exact isI.gc (isW.i2 (by assumption)) | exact isI.gx (isW.i3 (by assumption)) | exact isI.gc (isW.i3 (by assumption)) | exact isI.gx (isW.i4 (by assumption)) | exact isI.gc (isW.i4 (by assumption)) | exact isI.gx (isW.i5 (by assumption)) | exact isI.gc (isW.i5 (by assumption)) | exact isR.gx (by assumption) | exact isRd.gx (by assumption) | exact isSp.gx (by assumption) | exact isI.gx (isR.i (by assumption)) | exact isI.gx (isRd.i (by assumption)) | exact isI.gc (isRd.i (by assumption)) | exact isI.gx (isSp.i (by assumption)) | exact isW.gx (isR.w (by assumption)) | exact isW.gF (isR.w (by assumption)) | fail "no such object") rfl rfl (Nat.le_of_ble_eq_true rfl) (rm_fig _ hD hs ho hz hf (k := 8) (by decide)) (fun v_133 h_133 q_133 => ?_)
  obtain ⟨rfl, D_133, S_133⟩ := q_133
  have r_133 := fgM_r (f := f) (k := 8) hs hz.2 (by decide)
  have o_133 := S_133.at hst hO
  have e_133 := S_133.1
  have T_133 : Same (fun b => dBlk a b ∨ b = st) h h_133 := S_133.mono (fun _ q => Or.inl q)
  unfold stO at o_133
  refine r_putf (pc := 136) dX2_readStep_136 fX2_84 o_133 (by omega) (by first | rfl | exact narrow_rf _ _) (by first | rfl | exact fits_rf _ _) (Nat.le_of_ble_eq_true rfl) ?_
  dsimp only [List.set]
  refine rg_gen (fun h_136 o_136 s_136 l_136 n_136 k_136 => ?_)
  have D_136 := D_133.keep2 l_136 (fun b hb => s_136 b (fun q => hst (q ▸ hb)))
  have T_136 : Same (fun b => dBlk a b ∨ b = st) h h_136 := T_133.trans ⟨l_136, n_136, k_136, fun b hb => s_136 b (fun q => hb (Or.inr q))⟩
  refine r_aload_n (pc := 139) dX2_readStep_139 rfl (by first | rfl | exact isRefV_rf _) ?_
  refine rj_bipush (pc := 140) dX2_readStep_140 (by decide +kernel) ?_
  refine r_callV1 (pc := 142) dX2_readStep_142 qX2_expect kX2_38 vX2_expect (by first | assumption | exact isI.gx (by assumption) | exact isI.gc (by assumption) | exact isW.gx (by assumption) | exact isW.gF (by assumption) | exact isW.gT (by assumption) (by omega) | exact isW.gS (by assumption) (by omega) | exact isW.gK (by assumption) (by omega) | exact isW.g1 (by assumption) | exact isW.g2 (by assumption) | exact isW.g3 (by assumption) | exact isI.gx (isW.i0 (by assumption)) | exact isI.gc (isW.i0 (by assumption)) | exact isI.gx (isW.i1 (by assumption)) | exact isI.gc (isW.i1 (by assumption)) | exact isI.gx (isW.i2 (by assumption)) | exact isI.gc (isW.i2 (by assumption)) | exact isI.gx (isW.i3 (by assumption)) | exact isI.gc (isW.i3 (by assumption)) | exact isI.gx (isW.i4 (by assumption)) | exact isI.gc (isW.i4 (by assumption)) | exact isI.gx (isW.i5 (by assumption)) | exact isI.gc (isW.i5 (by assumption)) | exact isR.gx (by assumption) | exact isRd.gx (by assumption) | exact isSp.gx (by assumption) | exact isI.gx (isR.i (by assumption)) | exact isI.gx (isRd.i (by assumption)) | exact isI.gc (isRd.i (by assumption)) | exact isI.gx (isSp.i (by assumption)) | exact isW.gx (isR.w (by assumption)) | exact isW.gF (isR.w (by assumption)) | fail "no such object") rfl rfl (Nat.le_of_ble_eq_true rfl) (rm_exp _ D_136 r_133 ho hz hf (k := 61) (by decide)) (fun v_142 h_142 q_142 => ?_)
  obtain ⟨rfl, D_142, S_142⟩ := q_142
  have r_142 := xpM_r (f := f) (k := 61) r_133 hz.2 (by decide)
  have o_142 := S_142.at hst o_136
  have e_142 := S_142.1
  have T_142 : Same (fun b => dBlk a b ∨ b = st) h h_142 := T_136.trans (S_142.mono (fun _ q => Or.inl q))
  refine r_aload (pc := 145) dX2_readStep_145 rfl (by first | rfl | exact isRefV_rf _) ?_
  refine r_aload_n (pc := 147) dX2_readStep_147 rfl (by first | rfl | exact isRefV_rf _) ?_
  refine r_callV0 (pc := 148) dX2_readStep_148 qX2_readValue kX2_87 vX2_readValue (by first | assumption | exact isI.gx (by assumption) | exact isI.gc (by assumption) | exact isW.gx (by assumption) | exact isW.gF (by assumption) | exact isW.gT (by assumption) (by omega) | exact isW.gS (by assumption) (by omega) | exact isW.gK (by assumption) (by omega) | exact isW.g1 (by assumption) | exact isW.g2 (by assumption) | exact isW.g3 (by assumption) | exact isI.gx (isW.i0 (by assumption)) | exact isI.gc (isW.i0 (by assumption)) | exact isI.gx (isW.i1 (by assumption)) | exact isI.gc (isW.i1 (by assumption)) | exact isI.gx (isW.i2 (by assumption)) | exact isI.gc (isW.i2 (by assumption)) | exact isI.gx (isW.i3 (by assumption)) | exact isI.gc (isW.i3 (by assumption)) | exact isI.gx (isW.i4 (by assumption)) | exact isI.gc (isW.i4 (by assumption)) | exact isI.gx (isW.i5 (by assumption)) | exact isI.gc (isW.i5 (by assumption)) | exact isR.gx (by assumption) | exact isRd.gx (by assumption) | exact isSp.gx (by assumption) | exact isI.gx (isR.i (by assumption)) | exact isI.gx (isRd.i (by assumption)) | exact isI.gc (isRd.i (by assumption)) | exact isI.gx (isSp.i (by assumption)) | exact isW.gx (isR.w (by assumption)) | exact isW.gF (isR.w (by assumption)) | fail "no such object") rfl rfl (Nat.le_of_ble_eq_true rfl) (rm_val _ D_142 r_142 ho hz hf) (fun v_148 h_148 q_148 => ?_)
  obtain ⟨rfl, D_148, S_148⟩ := q_148
  have r_148 := vlM_r (f := f) r_142 hz.2
  have o_148 := S_148.at hst o_142
  have e_148 := S_148.1
  have T_148 : Same (fun b => dBlk a b ∨ b = st) h h_148 := T_142.trans (S_148.mono (fun _ q => Or.inl q))
  unfold stO at o_148
  refine r_putf (pc := 151) dX2_readStep_151 fX2_90 o_148 (by omega) (by first | rfl | exact narrow_rf _ _) (by first | rfl | exact fits_rf _ _) (Nat.le_of_ble_eq_true rfl) ?_
  dsimp only [List.set]
  refine rg_gen (fun h_151 o_151 s_151 l_151 n_151 k_151 => ?_)
  have D_151 := D_148.keep2 l_151 (fun b hb => s_151 b (fun q => hst (q ▸ hb)))
  have T_151 : Same (fun b => dBlk a b ∨ b = st) h h_151 := T_148.trans ⟨l_151, n_151, k_151, fun b hb => s_151 b (fun q => hb (Or.inr q))⟩
  refine r_goto (pc := 154) (tgt := 317) dX2_readStep_154 (by decide) ?_
  refine r_aload (pc := 317) dX2_readStep_317 rfl (by first | rfl | exact isRefV_rf _) ?_
  refine r_areturn (pc := 319) _ dX2_readStep_319 rfl (Or.inl ⟨_, rfl⟩) (by first | rfl | exact isRefV_rf _) ?_
  exact ⟨rfl, D_151, o_151, T_151⟩
set_option maxHeartbeats 4000000 in
set_option maxRecDepth 100000 in
theorem rk_bang {G : mG} {l : Launch} (d : Nat) {h : mH} {a st : Nat} {s : Int × Int} {o z br gd kd : Int} {f : Nat → Int} {y0 : Int64} {n0 v0 : Int} {i0 nx : Option Nat} (hD : isRd h a s.1 s.2 o z f) (hs : rgS z s) (ho : InR o) (hz : 0 ≤ z ∧ z ≤ 120) (hf : bytesOk f) (hst : ¬ dBlk a st) (hlo : h.1 ≤ st) (hO : hGet h st = some (stO kd n0 v0 y0 i0 nx)) : RUN G l (d + 3) mX2_readStep 157 [some (.ref a), some (.int (J br)), some (.int (J gd)), some (.int (J kd)), some (.ref st)] [] h (fun v h' => v = some (.ref st) ∧ isRd h' a (fnM z f s).1 (fnM z f s).2 o z f ∧ hGet h' st = some (stO kd (rfL z f 2 s.1 0).1 v0 y0 i0 nx) ∧ Same (fun b => dBlk a b ∨ b = st) h h') := by
  refine r_aload (pc := 157) dX2_readStep_157 rfl (by first | rfl | exact isRefV_rf _) ?_
  refine r_aload_n (pc := 159) dX2_readStep_159 rfl (by first | rfl | exact isRefV_rf _) ?_
  refine r_callV0 (pc := 160) dX2_readStep_160 qX2_readFaultNumber kX2_93 vX2_readFaultNumber (by first | assumption | exact isI.gx (by assumption) | exact isI.gc (by assumption) | exact isW.gx (by assumption) | exact isW.gF (by assumption) | exact isW.gT (by assumption) (by omega) | exact isW.gS (by assumption) (by omega) | exact isW.gK (by assumption) (by omega) | exact isW.g1 (by assumption) | exact isW.g2 (by assumption) | exact isW.g3 (by assumption) | exact isI.gx (isW.i0 (by assumption)) | exact isI.gc (isW.i0 (by assumption)) | exact isI.gx (isW.i1 (by assumption)) | exact isI.gc (isW.i1 (by assumption)) | exact isI.gx (isW.i2 (by assumption)) | exact isI.gc (isW.i2 (by assumption)) | exact isI.gx (isW.i3 (by assumption)) | exact isI.gc (isW.i3 (by assumption)) | exact isI.gx (isW.i4 (by assumption)) | exact isI.gc (isW.i4 (by assumption)) | exact isI.gx (isW.i5 (by assumption)) | exact isI.gc (isW.i5 (by assumption)) | exact isR.gx (by assumption) | exact isRd.gx (by assumption) | exact isSp.gx (by assumption) | exact isI.gx (isR.i (by assumption)) | exact isI.gx (isRd.i (by assumption)) | exact isI.gc (isRd.i (by assumption)) | exact isI.gx (isSp.i (by assumption)) | exact isW.gx (isR.w (by assumption)) | exact isW.gF (isR.w (by assumption)) | fail "no such object") rfl rfl (Nat.le_of_ble_eq_true rfl) (rm_fn _ hD hs ho hz hf) (fun v_160 h_160 q_160 => ?_)
  obtain ⟨rfl, D_160, S_160⟩ := q_160
  have r_160 := fnM_r (f := f) hs hz.2
  have o_160 := S_160.at hst hO
  have e_160 := S_160.1
  have T_160 : Same (fun b => dBlk a b ∨ b = st) h h_160 := S_160.mono (fun _ q => Or.inl q)
  unfold stO at o_160
  refine r_putf (pc := 163) dX2_readStep_163 fX2_84 o_160 (by omega) (by first | rfl | exact narrow_rf _ _) (by first | rfl | exact fits_rf _ _) (Nat.le_of_ble_eq_true rfl) ?_
  dsimp only [List.set]
  refine rg_gen (fun h_163 o_163 s_163 l_163 n_163 k_163 => ?_)
  have D_163 := D_160.keep2 l_163 (fun b hb => s_163 b (fun q => hst (q ▸ hb)))
  have T_163 : Same (fun b => dBlk a b ∨ b = st) h h_163 := T_160.trans ⟨l_163, n_163, k_163, fun b hb => s_163 b (fun q => hb (Or.inr q))⟩
  refine r_goto (pc := 166) (tgt := 317) dX2_readStep_166 (by decide) ?_
  refine r_aload (pc := 317) dX2_readStep_317 rfl (by first | rfl | exact isRefV_rf _) ?_
  refine r_areturn (pc := 319) _ dX2_readStep_319 rfl (Or.inl ⟨_, rfl⟩) (by first | rfl | exact isRefV_rf _) ?_
  exact ⟨rfl, D_163, o_163, T_163⟩
set_option maxHeartbeats 4000000 in
set_option maxRecDepth 100000 in
theorem rk_close {G : mG} {l : Launch} (d : Nat) {h : mH} {a st : Nat} {s : Int × Int} {o z br gd kd : Int} {f : Nat → Int} {y0 : Int64} {n0 v0 : Int} {i0 nx : Option Nat} (hD : isRd h a s.1 s.2 o z f) (hs : rgS z s) (ho : InR o) (hz : 0 ≤ z ∧ z ≤ 120) (hf : bytesOk f) (hst : ¬ dBlk a st) (hlo : h.1 ≤ st) (hO : hGet h st = some (stO kd n0 v0 y0 i0 nx)) : RUN G l (d + 3) mX2_readStep 191 [some (.ref a), some (.int (J br)), some (.int (J gd)), some (.int (J kd)), some (.ref st)] [] h (fun v h' => v = some (.ref st) ∧ ∃ y, ((97 ≤ hereC s.1 z f ∧ hereC s.1 z f ≤ 122) → y = (rnL z f 7 s.1 0).1) ∧ isRd h' a (nmM z f s).1 (nmM z f s).2 o z f ∧ hGet h' st = some (stO kd n0 v0 y i0 nx) ∧ Same (fun b => dBlk a b ∨ b = st) h h') := by
  refine r_aload (pc := 191) dX2_readStep_191 rfl (by first | rfl | exact isRefV_rf _) ?_
  refine r_aload_n (pc := 193) dX2_readStep_193 rfl (by first | rfl | exact isRefV_rf _) ?_
  refine r_callV0 (pc := 194) dX2_readStep_194 qX2_readName kX2_26 vX2_readName (by first | assumption | exact isI.gx (by assumption) | exact isI.gc (by assumption) | exact isW.gx (by assumption) | exact isW.gF (by assumption) | exact isW.gT (by assumption) (by omega) | exact isW.gS (by assumption) (by omega) | exact isW.gK (by assumption) (by omega) | exact isW.g1 (by assumption) | exact isW.g2 (by assumption) | exact isW.g3 (by assumption) | exact isI.gx (isW.i0 (by assumption)) | exact isI.gc (isW.i0 (by assumption)) | exact isI.gx (isW.i1 (by assumption)) | exact isI.gc (isW.i1 (by assumption)) | exact isI.gx (isW.i2 (by assumption)) | exact isI.gc (isW.i2 (by assumption)) | exact isI.gx (isW.i3 (by assumption)) | exact isI.gc (isW.i3 (by assumption)) | exact isI.gx (isW.i4 (by assumption)) | exact isI.gc (isW.i4 (by assumption)) | exact isI.gx (isW.i5 (by assumption)) | exact isI.gc (isW.i5 (by assumption)) | exact isR.gx (by assumption) | exact isRd.gx (by assumption) | exact isSp.gx (by assumption) | exact isI.gx (isR.i (by assumption)) | exact isI.gx (isRd.i (by assumption)) | exact isI.gc (isRd.i (by assumption)) | exact isI.gx (isSp.i (by assumption)) | exact isW.gx (isR.w (by assumption)) | exact isW.gF (isR.w (by assumption)) | fail "no such object") rfl rfl (Nat.le_of_ble_eq_true rfl) (rm_name _ hD hs ho hz hf) (fun v_194 h_194 q_194 => ?_)
  obtain ⟨⟨y_194, rfl, Y_194⟩, D_194, S_194⟩ := q_194
  have r_194 := nmM_r (f := f) hs hz.2
  have o_194 := S_194.at hst hO
  have e_194 := S_194.1
  have T_194 : Same (fun b => dBlk a b ∨ b = st) h h_194 := S_194.mono (fun _ q => Or.inl q)
  unfold stO at o_194
  refine r_putf (pc := 197) dX2_readStep_197 fX2_30 o_194 (by omega) (by first | rfl | exact narrow_rf _ _) (by first | rfl | exact fits_rf _ _) (Nat.le_of_ble_eq_true rfl) ?_
  dsimp only [List.set]
  refine rg_gen (fun h_197 o_197 s_197 l_197 n_197 k_197 => ?_)
  have D_197 := D_194.keep2 l_197 (fun b hb => s_197 b (fun q => hst (q ▸ hb)))
  have T_197 : Same (fun b => dBlk a b ∨ b = st) h h_197 := T_194.trans ⟨l_197, n_197, k_197, fun b hb => s_197 b (fun q => hb (Or.inr q))⟩
  refine r_goto (pc := 200) (tgt := 317) dX2_readStep_200 (by decide) ?_
  refine r_aload (pc := 317) dX2_readStep_317 rfl (by first | rfl | exact isRefV_rf _) ?_
  refine r_areturn (pc := 319) _ dX2_readStep_319 rfl (Or.inl ⟨_, rfl⟩) (by first | rfl | exact isRefV_rf _) ?_
  exact ⟨rfl, y_194, Y_194, D_197, o_197, T_197⟩
set_option maxHeartbeats 4000000 in
set_option maxRecDepth 100000 in
theorem rk_move {G : mG} {l : Launch} (d : Nat) {h : mH} {a st : Nat} {s : Int × Int} {o z br gd kd : Int} {f : Nat → Int} {y0 : Int64} {n0 v0 : Int} {i0 nx : Option Nat} (hD : isRd h a s.1 s.2 o z f) (hs : rgS z s) (ho : InR o) (hz : 0 ≤ z ∧ z ≤ 120) (hf : bytesOk f) (hst : ¬ dBlk a st) (hlo : h.1 ≤ st) (hO : hGet h st = some (stO kd n0 v0 y0 i0 nx)) : RUN G l (d + 3) mX2_readStep 203 [some (.ref a), some (.int (J br)), some (.int (J gd)), some (.int (J kd)), some (.ref st)] [] h (fun v h' => v = some (.ref st) ∧ ∃ y, ((97 ≤ hereC s.1 z f ∧ hereC s.1 z f ≤ 122) → y = (rnL z f 7 s.1 0).1) ∧ isRd h' a (fsM z f 2 (xpM z f 62 (nmM z f s))).1 (fsM z f 2 (xpM z f 62 (nmM z f s))).2 o z f ∧ hGet h' st = some (stO kd (rfL z f 2 (xpM z f 62 (nmM z f s)).1 0).1 v0 y i0 nx) ∧ Same (fun b => dBlk a b ∨ b = st) h h') := by
  refine r_aload (pc := 203) dX2_readStep_203 rfl (by first | rfl | exact isRefV_rf _) ?_
  refine r_aload_n (pc := 205) dX2_readStep_205 rfl (by first | rfl | exact isRefV_rf _) ?_
  refine r_callV0 (pc := 206) dX2_readStep_206 qX2_readName kX2_26 vX2_readName (by first | assumption | exact isI.gx (by assumption) | exact isI.gc (by assumption) | exact isW.gx (by assumption) | exact isW.gF (by assumption) | exact isW.gT (by assumption) (by omega) | exact isW.gS (by assumption) (by omega) | exact isW.gK (by assumption) (by omega) | exact isW.g1 (by assumption) | exact isW.g2 (by assumption) | exact isW.g3 (by assumption) | exact isI.gx (isW.i0 (by assumption)) | exact isI.gc (isW.i0 (by assumption)) | exact isI.gx (isW.i1 (by assumption)) | exact isI.gc (isW.i1 (by assumption)) | exact isI.gx (isW.i2 (by assumption)) | exact isI.gc (isW.i2 (by assumption)) | exact isI.gx (isW.i3 (by assumption)) | exact isI.gc (isW.i3 (by assumption)) | exact isI.gx (isW.i4 (by assumption)) | exact isI.gc (isW.i4 (by assumption)) | exact isI.gx (isW.i5 (by assumption)) | exact isI.gc (isW.i5 (by assumption)) | exact isR.gx (by assumption) | exact isRd.gx (by assumption) | exact isSp.gx (by assumption) | exact isI.gx (isR.i (by assumption)) | exact isI.gx (isRd.i (by assumption)) | exact isI.gc (isRd.i (by assumption)) | exact isI.gx (isSp.i (by assumption)) | exact isW.gx (isR.w (by assumption)) | exact isW.gF (isR.w (by assumption)) | fail "no such object") rfl rfl (Nat.le_of_ble_eq_true rfl) (rm_name _ hD hs ho hz hf) (fun v_206 h_206 q_206 => ?_)
  obtain ⟨⟨y_206, rfl, Y_206⟩, D_206, S_206⟩ := q_206
  have r_206 := nmM_r (f := f) hs hz.2
  have o_206 := S_206.at hst hO
  have e_206 := S_206.1
  have T_206 : Same (fun b => dBlk a b ∨ b = st) h h_206 := S_206.mono (fun _ q => Or.inl q)
  unfold stO at o_206
  refine r_putf (pc := 209) dX2_readStep_209 fX2_30 o_206 (by omega) (by first | rfl | exact narrow_rf _ _) (by first | rfl | exact fits_rf _ _) (Nat.le_of_ble_eq_true rfl) ?_
  dsimp only [List.set]
  refine rg_gen (fun h_209 o_209 s_209 l_209 n_209 k_209 => ?_)
  have D_209 := D_206.keep2 l_209 (fun b hb => s_209 b (fun q => hst (q ▸ hb)))
  have T_209 : Same (fun b => dBlk a b ∨ b = st) h h_209 := T_206.trans ⟨l_209, n_209, k_209, fun b hb => s_209 b (fun q => hb (Or.inr q))⟩
  refine r_aload_n (pc := 212) dX2_readStep_212 rfl (by first | rfl | exact isRefV_rf _) ?_
  refine rj_bipush (pc := 213) dX2_readStep_213 (by decide +kernel) ?_
  refine r_callV1 (pc := 215) dX2_readStep_215 qX2_expect kX2_38 vX2_expect (by first | assumption | exact isI.gx (by assumption) | exact isI.gc (by assumption) | exact isW.gx (by assumption) | exact isW.gF (by assumption) | exact isW.gT (by assumption) (by omega) | exact isW.gS (by assumption) (by omega) | exact isW.gK (by assumption) (by omega) | exact isW.g1 (by assumption) | exact isW.g2 (by assumption) | exact isW.g3 (by assumption) | exact isI.gx (isW.i0 (by assumption)) | exact isI.gc (isW.i0 (by assumption)) | exact isI.gx (isW.i1 (by assumption)) | exact isI.gc (isW.i1 (by assumption)) | exact isI.gx (isW.i2 (by assumption)) | exact isI.gc (isW.i2 (by assumption)) | exact isI.gx (isW.i3 (by assumption)) | exact isI.gc (isW.i3 (by assumption)) | exact isI.gx (isW.i4 (by assumption)) | exact isI.gc (isW.i4 (by assumption)) | exact isI.gx (isW.i5 (by assumption)) | exact isI.gc (isW.i5 (by assumption)) | exact isR.gx (by assumption) | exact isRd.gx (by assumption) | exact isSp.gx (by assumption) | exact isI.gx (isR.i (by assumption)) | exact isI.gx (isRd.i (by assumption)) | exact isI.gc (isRd.i (by assumption)) | exact isI.gx (isSp.i (by assumption)) | exact isW.gx (isR.w (by assumption)) | exact isW.gF (isR.w (by assumption)) | fail "no such object") rfl rfl (Nat.le_of_ble_eq_true rfl) (rm_exp _ D_209 r_206 ho hz hf (k := 62) (by decide)) (fun v_215 h_215 q_215 => ?_)
  obtain ⟨rfl, D_215, S_215⟩ := q_215
  have r_215 := xpM_r (f := f) (k := 62) r_206 hz.2 (by decide)
  have o_215 := S_215.at hst o_209
  have e_215 := S_215.1
  have T_215 : Same (fun b => dBlk a b ∨ b = st) h h_215 := T_209.trans (S_215.mono (fun _ q => Or.inl q))
  refine r_aload (pc := 218) dX2_readStep_218 rfl (by first | rfl | exact isRefV_rf _) ?_
  refine r_aload_n (pc := 220) dX2_readStep_220 rfl (by first | rfl | exact isRefV_rf _) ?_
  refine rj_iconst (pc := 221) dX2_readStep_221 ?_
  refine r_callV1 (pc := 222) dX2_readStep_222 qX2_readFigures kX2_100 vX2_readFigures (by first | assumption | exact isI.gx (by assumption) | exact isI.gc (by assumption) | exact isW.gx (by assumption) | exact isW.gF (by assumption) | exact isW.gT (by assumption) (by omega) | exact isW.gS (by assumption) (by omega) | exact isW.gK (by assumption) (by omega) | exact isW.g1 (by assumption) | exact isW.g2 (by assumption) | exact isW.g3 (by assumption) | exact isI.gx (isW.i0 (by assumption)) | exact isI.gc (isW.i0 (by assumption)) | exact isI.gx (isW.i1 (by assumption)) | exact isI.gc (isW.i1 (by assumption)) | exact isI.gx (isW.i2 (by assumption)) | exact isI.gc (isW.i2 (by assumption)) | exact isI.gx (isW.i3 (by assumption)) | exact isI.gc (isW.i3 (by assumption)) | exact isI.gx (isW.i4 (by assumption)) | exact isI.gc (isW.i4 (by assumption)) | exact isI.gx (isW.i5 (by assumption)) | exact isI.gc (isW.i5 (by assumption)) | exact isR.gx (by assumption) | exact isRd.gx (by assumption) | exact isSp.gx (by assumption) | exact isI.gx (isR.i (by assumption)) | exact isI.gx (isRd.i (by assumption)) | exact isI.gc (isRd.i (by assumption)) | exact isI.gx (isSp.i (by assumption)) | exact isW.gx (isR.w (by assumption)) | exact isW.gF (isR.w (by assumption)) | fail "no such object") rfl rfl (Nat.le_of_ble_eq_true rfl) (rm_figs _ D_215 r_215 ho hz hf) (fun v_222 h_222 q_222 => ?_)
  obtain ⟨rfl, D_222, S_222⟩ := q_222
  have r_222 := fsM_r (f := f) (m := 2) r_215 hz.2
  have o_222 := S_222.at hst o_215
  have e_222 := S_222.1
  have T_222 : Same (fun b => dBlk a b ∨ b = st) h h_222 := T_215.trans (S_222.mono (fun _ q => Or.inl q))
  unfold stO at o_222
  refine r_putf (pc := 225) dX2_readStep_225 fX2_84 o_222 (by omega) (by first | rfl | exact narrow_rf _ _) (by first | rfl | exact fits_rf _ _) (Nat.le_of_ble_eq_true rfl) ?_
  dsimp only [List.set]
  refine rg_gen (fun h_225 o_225 s_225 l_225 n_225 k_225 => ?_)
  have D_225 := D_222.keep2 l_225 (fun b hb => s_225 b (fun q => hst (q ▸ hb)))
  have T_225 : Same (fun b => dBlk a b ∨ b = st) h h_225 := T_222.trans ⟨l_225, n_225, k_225, fun b hb => s_225 b (fun q => hb (Or.inr q))⟩
  refine r_goto (pc := 228) (tgt := 317) dX2_readStep_228 (by decide) ?_
  refine r_aload (pc := 317) dX2_readStep_317 rfl (by first | rfl | exact isRefV_rf _) ?_
  refine r_areturn (pc := 319) _ dX2_readStep_319 rfl (Or.inl ⟨_, rfl⟩) (by first | rfl | exact isRefV_rf _) ?_
  exact ⟨rfl, y_206, Y_206, D_225, o_225, T_225⟩
set_option maxHeartbeats 4000000 in
set_option maxRecDepth 100000 in
theorem rk_cancel {G : mG} {l : Launch} (d : Nat) {h : mH} {a st : Nat} {s : Int × Int} {o z br gd kd : Int} {f : Nat → Int} {y0 : Int64} {n0 v0 : Int} {i0 nx : Option Nat} (hD : isRd h a s.1 s.2 o z f) (hs : rgS z s) (ho : InR o) (hz : 0 ≤ z ∧ z ≤ 120) (hf : bytesOk f) (hst : ¬ dBlk a st) (hlo : h.1 ≤ st) (hO : hGet h st = some (stO kd n0 v0 y0 i0 nx)) : RUN G l (d + 3) mX2_readStep 231 [some (.ref a), some (.int (J br)), some (.int (J gd)), some (.int (J kd)), some (.ref st)] [] h (fun v h' => v = some (.ref st) ∧ isRd h' a (fgM z f 10 s).1 (fgM z f 10 s).2 o z f ∧ hGet h' st = some (stO kd (fgU z f 10 s.1) v0 y0 i0 nx) ∧ Same (fun b => dBlk a b ∨ b = st) h h') := by
  refine r_aload (pc := 231) dX2_readStep_231 rfl (by first | rfl | exact isRefV_rf _) ?_
  refine r_aload_n (pc := 233) dX2_readStep_233 rfl (by first | rfl | exact isRefV_rf _) ?_
  refine rj_bipush (pc := 234) dX2_readStep_234 (by decide +kernel) ?_
  refine r_callV1 (pc := 236) dX2_readStep_236 qX2_readFigure kX2_80 vX2_readFigure (by first | assumption | exact isI.gx (by assumption) | exact isI.gc (by assumption) | exact isW.gx (by assumption) | exact isW.gF (by assumption) | exact isW.gT (by assumption) (by omega) | exact isW.gS (by assumption) (by omega) | exact isW.gK (by assumption) (by omega) | exact isW.g1 (by assumption) | exact isW.g2 (by assumption) | exact isW.g3 (by assumption) | exact isI.gx (isW.i0 (by assumption)) | exact isI.gc (isW.i0 (by assumption)) | exact isI.gx (isW.i1 (by assumption)) | exact isI.gc (isW.i1 (by assumption)) | exact isI.gx (isW.i2 (by assumption)) | exact isI.gc (isW.i2 (by assumption)) | exact isI.gx (isW.i3 (by assumption)) | exact isI.gc (isW.i3 (by assumption)) | exact isI.gx (isW.i4 (by assumption)) | exact isI.gc (isW.i4 (by assumption)) | exact isI.gx (isW.i5 (by assumption)) | exact isI.gc (isW.i5 (by assumption)) | exact isR.gx (by assumption) | exact isRd.gx (by assumption) | exact isSp.gx (by assumption) | exact isI.gx (isR.i (by assumption)) | exact isI.gx (isRd.i (by assumption)) | exact isI.gc (isRd.i (by assumption)) | exact isI.gx (isSp.i (by assumption)) | exact isW.gx (isR.w (by assumption)) | exact isW.gF (isR.w (by assumption)) | fail "no such object") rfl rfl (Nat.le_of_ble_eq_true rfl) (rm_fig _ hD hs ho hz hf (k := 10) (by decide)) (fun v_236 h_236 q_236 => ?_)
  obtain ⟨rfl, D_236, S_236⟩ := q_236
  have r_236 := fgM_r (f := f) (k := 10) hs hz.2 (by decide)
  have o_236 := S_236.at hst hO
  have e_236 := S_236.1
  have T_236 : Same (fun b => dBlk a b ∨ b = st) h h_236 := S_236.mono (fun _ q => Or.inl q)
  unfold stO at o_236
  refine r_putf (pc := 239) dX2_readStep_239 fX2_84 o_236 (by omega) (by first | rfl | exact narrow_rf _ _) (by first | rfl | exact fits_rf _ _) (Nat.le_of_ble_eq_true rfl) ?_
  dsimp only [List.set]
  refine rg_gen (fun h_239 o_239 s_239 l_239 n_239 k_239 => ?_)
  have D_239 := D_236.keep2 l_239 (fun b hb => s_239 b (fun q => hst (q ▸ hb)))
  have T_239 : Same (fun b => dBlk a b ∨ b = st) h h_239 := T_236.trans ⟨l_239, n_239, k_239, fun b hb => s_239 b (fun q => hb (Or.inr q))⟩
  refine r_goto (pc := 242) (tgt := 317) dX2_readStep_242 (by decide) ?_
  refine r_aload (pc := 317) dX2_readStep_317 rfl (by first | rfl | exact isRefV_rf _) ?_
  refine r_areturn (pc := 319) _ dX2_readStep_319 rfl (Or.inl ⟨_, rfl⟩) (by first | rfl | exact isRefV_rf _) ?_
  exact ⟨rfl, D_239, o_239, T_239⟩
set_option maxHeartbeats 4000000 in
set_option maxRecDepth 100000 in
theorem rk_take {G : mG} {l : Launch} (d : Nat) {h : mH} {a st : Nat} {s : Int × Int} {o z br gd kd : Int} {f : Nat → Int} {y0 : Int64} {n0 v0 : Int} {i0 nx : Option Nat} (hD : isRd h a s.1 s.2 o z f) (hs : rgS z s) (ho : InR o) (hz : 0 ≤ z ∧ z ≤ 120) (hf : bytesOk f) (hst : ¬ dBlk a st) (hlo : h.1 ≤ st) (hO : hGet h st = some (stO kd n0 v0 y0 i0 nx)) {R : Int64 → Option Nat → mH → Prop} (P : ∀ (y : Int64) (h1 : mH), ((97 ≤ hereC s.1 z f ∧ hereC s.1 z f ≤ 122) → y = (rnL z f 7 s.1 0).1) → isRd h1 a (nmM z f s).1 (nmM z f s).2 o z f → hGet h1 st = some (stO kd n0 v0 y i0 nx) → Same (fun b => dBlk a b ∨ b = st) h h1 → RUNM G l (d + 2) mX2_readCloser [.ref a, .int (J br)] h1 (fun v h' => ∃ r, v = some (va_rf r) ∧ R y r h')) (hR : ∀ y r h2, R y r h2 → hGet h2 st = some (stO kd n0 v0 y i0 nx) ∧ h2.1 ≤ st) : RUN G l (d + 3) mX2_readStep 169 [some (.ref a), some (.int (J br)), some (.int (J gd)), some (.int (J kd)), some (.ref st)] [] h (fun v h' => v = some (.ref st) ∧ ∃ y r h2, ((97 ≤ hereC s.1 z f ∧ hereC s.1 z f ≤ 122) → y = (rnL z f 7 s.1 0).1) ∧ R y r h2 ∧ hGet h' st = some (stO kd n0 v0 y r nx) ∧ Same (fun b => b = st) h2 h') := by
  refine r_aload (pc := 169) dX2_readStep_169 rfl (by first | rfl | exact isRefV_rf _) ?_
  refine r_aload_n (pc := 171) dX2_readStep_171 rfl (by first | rfl | exact isRefV_rf _) ?_
  refine r_callV0 (pc := 172) dX2_readStep_172 qX2_readName kX2_26 vX2_readName (by first | assumption | exact isI.gx (by assumption) | exact isI.gc (by assumption) | exact isW.gx (by assumption) | exact isW.gF (by assumption) | exact isW.gT (by assumption) (by omega) | exact isW.gS (by assumption) (by omega) | exact isW.gK (by assumption) (by omega) | exact isW.g1 (by assumption) | exact isW.g2 (by assumption) | exact isW.g3 (by assumption) | exact isI.gx (isW.i0 (by assumption)) | exact isI.gc (isW.i0 (by assumption)) | exact isI.gx (isW.i1 (by assumption)) | exact isI.gc (isW.i1 (by assumption)) | exact isI.gx (isW.i2 (by assumption)) | exact isI.gc (isW.i2 (by assumption)) | exact isI.gx (isW.i3 (by assumption)) | exact isI.gc (isW.i3 (by assumption)) | exact isI.gx (isW.i4 (by assumption)) | exact isI.gc (isW.i4 (by assumption)) | exact isI.gx (isW.i5 (by assumption)) | exact isI.gc (isW.i5 (by assumption)) | exact isR.gx (by assumption) | exact isRd.gx (by assumption) | exact isSp.gx (by assumption) | exact isI.gx (isR.i (by assumption)) | exact isI.gx (isRd.i (by assumption)) | exact isI.gc (isRd.i (by assumption)) | exact isI.gx (isSp.i (by assumption)) | exact isW.gx (isR.w (by assumption)) | exact isW.gF (isR.w (by assumption)) | fail "no such object") rfl rfl (Nat.le_of_ble_eq_true rfl) (rm_name _ hD hs ho hz hf) (fun v_172 h_172 q_172 => ?_)
  obtain ⟨⟨y_172, rfl, Y_172⟩, D_172, S_172⟩ := q_172
  have r_172 := nmM_r (f := f) hs hz.2
  have o_172 := S_172.at hst hO
  have e_172 := S_172.1
  have T_172 : Same (fun b => dBlk a b ∨ b = st) h h_172 := S_172.mono (fun _ q => Or.inl q)
  unfold stO at o_172
  refine r_putf (pc := 175) dX2_readStep_175 fX2_30 o_172 (by omega) (by first | rfl | exact narrow_rf _ _) (by first | rfl | exact fits_rf _ _) (Nat.le_of_ble_eq_true rfl) ?_
  dsimp only [List.set]
  refine rg_gen (fun h_175 o_175 s_175 l_175 n_175 k_175 => ?_)
  have D_175 := D_172.keep2 l_175 (fun b hb => s_175 b (fun q => hst (q ▸ hb)))
  have T_175 : Same (fun b => dBlk a b ∨ b = st) h h_175 := T_172.trans ⟨l_175, n_175, k_175, fun b hb => s_175 b (fun q => hb (Or.inr q))⟩
  refine r_aload (pc := 178) dX2_readStep_178 rfl (by first | rfl | exact isRefV_rf _) ?_
  refine r_aload_n (pc := 180) dX2_readStep_180 rfl (by first | rfl | exact isRefV_rf _) ?_
  refine r_iload_n (pc := 181) dX2_readStep_181 rfl ?_
  refine r_callV1 (pc := 182) dX2_readStep_182 qX2_readCloser kX2_96 vX2_readCloser (by first | assumption | exact isI.gx (by assumption) | exact isI.gc (by assumption) | exact isW.gx (by assumption) | exact isW.gF (by assumption) | exact isW.gT (by assumption) (by omega) | exact isW.gS (by assumption) (by omega) | exact isW.gK (by assumption) (by omega) | exact isW.g1 (by assumption) | exact isW.g2 (by assumption) | exact isW.g3 (by assumption) | exact isI.gx (isW.i0 (by assumption)) | exact isI.gc (isW.i0 (by assumption)) | exact isI.gx (isW.i1 (by assumption)) | exact isI.gc (isW.i1 (by assumption)) | exact isI.gx (isW.i2 (by assumption)) | exact isI.gc (isW.i2 (by assumption)) | exact isI.gx (isW.i3 (by assumption)) | exact isI.gc (isW.i3 (by assumption)) | exact isI.gx (isW.i4 (by assumption)) | exact isI.gc (isW.i4 (by assumption)) | exact isI.gx (isW.i5 (by assumption)) | exact isI.gc (isW.i5 (by assumption)) | exact isR.gx (by assumption) | exact isRd.gx (by assumption) | exact isSp.gx (by assumption) | exact isI.gx (isR.i (by assumption)) | exact isI.gx (isRd.i (by assumption)) | exact isI.gc (isRd.i (by assumption)) | exact isI.gx (isSp.i (by assumption)) | exact isW.gx (isR.w (by assumption)) | exact isW.gF (isR.w (by assumption)) | fail "no such object") rfl rfl (Nat.le_of_ble_eq_true rfl) (P y_172 _ Y_172 D_175 o_175 T_175) (fun v_182 h_182 q_182 => ?_)
  obtain ⟨r_182, rfl, R_182⟩ := q_182
  obtain ⟨o_182, l_182⟩ := hR _ _ _ R_182
  unfold stO at o_182
  refine r_putf (pc := 185) dX2_readStep_185 fX2_45 o_182 (by omega) (by first | rfl | exact narrow_rf _ _) (by first | rfl | exact fits_rf _ _) (Nat.le_of_ble_eq_true rfl) ?_
  dsimp only [List.set]
  refine rg_gen (fun h_185 o_185 s_185 l_185 n_185 k_185 => ?_)
  refine r_goto (pc := 188) (tgt := 317) dX2_readStep_188 (by decide) ?_
  refine r_aload (pc := 317) dX2_readStep_317 rfl (by first | rfl | exact isRefV_rf _) ?_
  refine r_areturn (pc := 319) _ dX2_readStep_319 rfl (Or.inl ⟨_, rfl⟩) (by first | rfl | exact isRefV_rf _) ?_
  exact ⟨rfl, y_172, r_182, h_182, Y_172, R_182, o_185, l_185, n_185, k_185, fun b hb => s_185 b hb⟩
set_option maxHeartbeats 4000000 in
set_option maxRecDepth 100000 in
theorem rk_if {G : mG} {l : Launch} (d : Nat) {h : mH} {a st : Nat} {s : Int × Int} {o z br gd kd : Int} {f : Nat → Int} {y0 : Int64} {n0 v0 : Int} {i0 nx : Option Nat} (hD : isRd h a s.1 s.2 o z f) (hs : rgS z s) (ho : InR o) (hz : 0 ≤ z ∧ z ≤ 120) (hf : bytesOk f) (hst : ¬ dBlk a st) (hlo : h.1 ≤ st) (hO : hGet h st = some (stO kd n0 v0 y0 i0 nx)) {R : Option Nat → mH → Prop} (P : ∀ (h1 : mH), isRd h1 a (xpM z f 58 (vlM z f (xpM z f 60 (fgM z f 8 s)))).1 (xpM z f 58 (vlM z f (xpM z f 60 (fgM z f 8 s)))).2 o z f → hGet h1 st = some (stO kd (fgU z f 8 s.1) (rvV (xpM z f 60 (fgM z f 8 s)).1 z f) y0 i0 nx) → Same (fun b => dBlk a b ∨ b = st) h h1 → RUNM G l (d + 2) mX2_readStep [.ref a, .int (J br), .int (J 1)] h1 (fun v h' => ∃ r, v = some (va_rf r) ∧ R r h')) (hR : ∀ r h2, R r h2 → hGet h2 st = some (stO kd (fgU z f 8 s.1) (rvV (xpM z f 60 (fgM z f 8 s)).1 z f) y0 i0 nx) ∧ h2.1 ≤ st) : RUN G l (d + 3) mX2_readStep 245 [some (.ref a), some (.int (J br)), some (.int (J gd)), some (.int (J kd)), some (.ref st)] [] h (fun v h' => v = some (.ref st) ∧ ∃ r h2, R r h2 ∧ hGet h' st = some (stO kd (fgU z f 8 s.1) (rvV (xpM z f 60 (fgM z f 8 s)).1 z f) y0 r nx) ∧ Same (fun b => b = st) h2 h') := by
  refine r_aload (pc := 245) dX2_readStep_245 rfl (by first | rfl | exact isRefV_rf _) ?_
  refine r_aload_n (pc := 247) dX2_readStep_247 rfl (by first | rfl | exact isRefV_rf _) ?_
  refine rj_bipush (pc := 248) dX2_readStep_248 (by decide +kernel) ?_
  refine r_callV1 (pc := 250) dX2_readStep_250 qX2_readFigure kX2_80 vX2_readFigure (by first | assumption | exact isI.gx (by assumption) | exact isI.gc (by assumption) | exact isW.gx (by assumption) | exact isW.gF (by assumption) | exact isW.gT (by assumption) (by omega) | exact isW.gS (by assumption) (by omega) | exact isW.gK (by assumption) (by omega) | exact isW.g1 (by assumption) | exact isW.g2 (by assumption) | exact isW.g3 (by assumption) | exact isI.gx (isW.i0 (by assumption)) | exact isI.gc (isW.i0 (by assumption)) | exact isI.gx (isW.i1 (by assumption)) | exact isI.gc (isW.i1 (by assumption)) | exact isI.gx (isW.i2 (by assumption)) | exact isI.gc (isW.i2 (by assumption)) | exact isI.gx (isW.i3 (by assumption)) | exact isI.gc (isW.i3 (by assumption)) | exact isI.gx (isW.i4 (by assumption)) | exact isI.gc (isW.i4 (by assumption)) | exact isI.gx (isW.i5 (by assumption)) | exact isI.gc (isW.i5 (by assumption)) | exact isR.gx (by assumption) | exact isRd.gx (by assumption) | exact isSp.gx (by assumption) | exact isI.gx (isR.i (by assumption)) | exact isI.gx (isRd.i (by assumption)) | exact isI.gc (isRd.i (by assumption)) | exact isI.gx (isSp.i (by assumption)) | exact isW.gx (isR.w (by assumption)) | exact isW.gF (isR.w (by assumption)) | fail "no such object") rfl rfl (Nat.le_of_ble_eq_true rfl) (rm_fig _ hD hs ho hz hf (k := 8) (by decide)) (fun v_250 h_250 q_250 => ?_)
  obtain ⟨rfl, D_250, S_250⟩ := q_250
  have r_250 := fgM_r (f := f) (k := 8) hs hz.2 (by decide)
  have o_250 := S_250.at hst hO
  have e_250 := S_250.1
  have T_250 : Same (fun b => dBlk a b ∨ b = st) h h_250 := S_250.mono (fun _ q => Or.inl q)
  unfold stO at o_250
  refine r_putf (pc := 253) dX2_readStep_253 fX2_84 o_250 (by omega) (by first | rfl | exact narrow_rf _ _) (by first | rfl | exact fits_rf _ _) (Nat.le_of_ble_eq_true rfl) ?_
  dsimp only [List.set]
  refine rg_gen (fun h_253 o_253 s_253 l_253 n_253 k_253 => ?_)
  have D_253 := D_250.keep2 l_253 (fun b hb => s_253 b (fun q => hst (q ▸ hb)))
  have T_253 : Same (fun b => dBlk a b ∨ b = st) h h_253 := T_250.trans ⟨l_253, n_253, k_253, fun b hb => s_253 b (fun q => hb (Or.inr q))⟩
  refine r_aload_n (pc := 256) dX2_readStep_256 rfl (by first | rfl | exact isRefV_rf _) ?_
  refine rj_bipush (pc := 257) dX2_readStep_257 (by decide +kernel) ?_
  refine r_callV1 (pc := 259) dX2_readStep_259 qX2_expect kX2_38 vX2_expect (by first | assumption | exact isI.gx (by assumption) | exact isI.gc (by assumption) | exact isW.gx (by assumption) | exact isW.gF (by assumption) | exact isW.gT (by assumption) (by omega) | exact isW.gS (by assumption) (by omega) | exact isW.gK (by assumption) (by omega) | exact isW.g1 (by assumption) | exact isW.g2 (by assumption) | exact isW.g3 (by assumption) | exact isI.gx (isW.i0 (by assumption)) | exact isI.gc (isW.i0 (by assumption)) | exact isI.gx (isW.i1 (by assumption)) | exact isI.gc (isW.i1 (by assumption)) | exact isI.gx (isW.i2 (by assumption)) | exact isI.gc (isW.i2 (by assumption)) | exact isI.gx (isW.i3 (by assumption)) | exact isI.gc (isW.i3 (by assumption)) | exact isI.gx (isW.i4 (by assumption)) | exact isI.gc (isW.i4 (by assumption)) | exact isI.gx (isW.i5 (by assumption)) | exact isI.gc (isW.i5 (by assumption)) | exact isR.gx (by assumption) | exact isRd.gx (by assumption) | exact isSp.gx (by assumption) | exact isI.gx (isR.i (by assumption)) | exact isI.gx (isRd.i (by assumption)) | exact isI.gc (isRd.i (by assumption)) | exact isI.gx (isSp.i (by assumption)) | exact isW.gx (isR.w (by assumption)) | exact isW.gF (isR.w (by assumption)) | fail "no such object") rfl rfl (Nat.le_of_ble_eq_true rfl) (rm_exp _ D_253 r_250 ho hz hf (k := 60) (by decide)) (fun v_259 h_259 q_259 => ?_)
  obtain ⟨rfl, D_259, S_259⟩ := q_259
  have r_259 := xpM_r (f := f) (k := 60) r_250 hz.2 (by decide)
  have o_259 := S_259.at hst o_253
  have e_259 := S_259.1
  have T_259 : Same (fun b => dBlk a b ∨ b = st) h h_259 := T_253.trans (S_259.mono (fun _ q => Or.inl q))
  refine r_aload (pc := 262) dX2_readStep_262 rfl (by first | rfl | exact isRefV_rf _) ?_
  refine r_aload_n (pc := 264) dX2_readStep_264 rfl (by first | rfl | exact isRefV_rf _) ?_
  refine r_callV0 (pc := 265) dX2_readStep_265 qX2_readValue kX2_87 vX2_readValue (by first | assumption | exact isI.gx (by assumption) | exact isI.gc (by assumption) | exact isW.gx (by assumption) | exact isW.gF (by assumption) | exact isW.gT (by assumption) (by omega) | exact isW.gS (by assumption) (by omega) | exact isW.gK (by assumption) (by omega) | exact isW.g1 (by assumption) | exact isW.g2 (by assumption) | exact isW.g3 (by assumption) | exact isI.gx (isW.i0 (by assumption)) | exact isI.gc (isW.i0 (by assumption)) | exact isI.gx (isW.i1 (by assumption)) | exact isI.gc (isW.i1 (by assumption)) | exact isI.gx (isW.i2 (by assumption)) | exact isI.gc (isW.i2 (by assumption)) | exact isI.gx (isW.i3 (by assumption)) | exact isI.gc (isW.i3 (by assumption)) | exact isI.gx (isW.i4 (by assumption)) | exact isI.gc (isW.i4 (by assumption)) | exact isI.gx (isW.i5 (by assumption)) | exact isI.gc (isW.i5 (by assumption)) | exact isR.gx (by assumption) | exact isRd.gx (by assumption) | exact isSp.gx (by assumption) | exact isI.gx (isR.i (by assumption)) | exact isI.gx (isRd.i (by assumption)) | exact isI.gc (isRd.i (by assumption)) | exact isI.gx (isSp.i (by assumption)) | exact isW.gx (isR.w (by assumption)) | exact isW.gF (isR.w (by assumption)) | fail "no such object") rfl rfl (Nat.le_of_ble_eq_true rfl) (rm_val _ D_259 r_259 ho hz hf) (fun v_265 h_265 q_265 => ?_)
  obtain ⟨rfl, D_265, S_265⟩ := q_265
  have r_265 := vlM_r (f := f) r_259 hz.2
  have o_265 := S_265.at hst o_259
  have e_265 := S_265.1
  have T_265 : Same (fun b => dBlk a b ∨ b = st) h h_265 := T_259.trans (S_265.mono (fun _ q => Or.inl q))
  unfold stO at o_265
  refine r_putf (pc := 268) dX2_readStep_268 fX2_90 o_265 (by omega) (by first | rfl | exact narrow_rf _ _) (by first | rfl | exact fits_rf _ _) (Nat.le_of_ble_eq_true rfl) ?_
  dsimp only [List.set]
  refine rg_gen (fun h_268 o_268 s_268 l_268 n_268 k_268 => ?_)
  have D_268 := D_265.keep2 l_268 (fun b hb => s_268 b (fun q => hst (q ▸ hb)))
  have T_268 : Same (fun b => dBlk a b ∨ b = st) h h_268 := T_265.trans ⟨l_268, n_268, k_268, fun b hb => s_268 b (fun q => hb (Or.inr q))⟩
  refine r_aload_n (pc := 271) dX2_readStep_271 rfl (by first | rfl | exact isRefV_rf _) ?_
  refine rj_bipush (pc := 272) dX2_readStep_272 (by decide +kernel) ?_
  refine r_callV1 (pc := 274) dX2_readStep_274 qX2_expect kX2_38 vX2_expect (by first | assumption | exact isI.gx (by assumption) | exact isI.gc (by assumption) | exact isW.gx (by assumption) | exact isW.gF (by assumption) | exact isW.gT (by assumption) (by omega) | exact isW.gS (by assumption) (by omega) | exact isW.gK (by assumption) (by omega) | exact isW.g1 (by assumption) | exact isW.g2 (by assumption) | exact isW.g3 (by assumption) | exact isI.gx (isW.i0 (by assumption)) | exact isI.gc (isW.i0 (by assumption)) | exact isI.gx (isW.i1 (by assumption)) | exact isI.gc (isW.i1 (by assumption)) | exact isI.gx (isW.i2 (by assumption)) | exact isI.gc (isW.i2 (by assumption)) | exact isI.gx (isW.i3 (by assumption)) | exact isI.gc (isW.i3 (by assumption)) | exact isI.gx (isW.i4 (by assumption)) | exact isI.gc (isW.i4 (by assumption)) | exact isI.gx (isW.i5 (by assumption)) | exact isI.gc (isW.i5 (by assumption)) | exact isR.gx (by assumption) | exact isRd.gx (by assumption) | exact isSp.gx (by assumption) | exact isI.gx (isR.i (by assumption)) | exact isI.gx (isRd.i (by assumption)) | exact isI.gc (isRd.i (by assumption)) | exact isI.gx (isSp.i (by assumption)) | exact isW.gx (isR.w (by assumption)) | exact isW.gF (isR.w (by assumption)) | fail "no such object") rfl rfl (Nat.le_of_ble_eq_true rfl) (rm_exp _ D_268 r_265 ho hz hf (k := 58) (by decide)) (fun v_274 h_274 q_274 => ?_)
  obtain ⟨rfl, D_274, S_274⟩ := q_274
  have r_274 := xpM_r (f := f) (k := 58) r_265 hz.2 (by decide)
  have o_274 := S_274.at hst o_268
  have e_274 := S_274.1
  have T_274 : Same (fun b => dBlk a b ∨ b = st) h h_274 := T_268.trans (S_274.mono (fun _ q => Or.inl q))
  refine r_aload (pc := 277) dX2_readStep_277 rfl (by first | rfl | exact isRefV_rf _) ?_
  refine r_aload_n (pc := 279) dX2_readStep_279 rfl (by first | rfl | exact isRefV_rf _) ?_
  refine r_iload_n (pc := 280) dX2_readStep_280 rfl ?_
  refine rj_iconst (pc := 281) dX2_readStep_281 ?_
  refine r_callV2 (pc := 282) dX2_readStep_282 qX2_readStep kX2_69 vX2_readStep (by first | assumption | exact isI.gx (by assumption) | exact isI.gc (by assumption) | exact isW.gx (by assumption) | exact isW.gF (by assumption) | exact isW.gT (by assumption) (by omega) | exact isW.gS (by assumption) (by omega) | exact isW.gK (by assumption) (by omega) | exact isW.g1 (by assumption) | exact isW.g2 (by assumption) | exact isW.g3 (by assumption) | exact isI.gx (isW.i0 (by assumption)) | exact isI.gc (isW.i0 (by assumption)) | exact isI.gx (isW.i1 (by assumption)) | exact isI.gc (isW.i1 (by assumption)) | exact isI.gx (isW.i2 (by assumption)) | exact isI.gc (isW.i2 (by assumption)) | exact isI.gx (isW.i3 (by assumption)) | exact isI.gc (isW.i3 (by assumption)) | exact isI.gx (isW.i4 (by assumption)) | exact isI.gc (isW.i4 (by assumption)) | exact isI.gx (isW.i5 (by assumption)) | exact isI.gc (isW.i5 (by assumption)) | exact isR.gx (by assumption) | exact isRd.gx (by assumption) | exact isSp.gx (by assumption) | exact isI.gx (isR.i (by assumption)) | exact isI.gx (isRd.i (by assumption)) | exact isI.gc (isRd.i (by assumption)) | exact isI.gx (isSp.i (by assumption)) | exact isW.gx (isR.w (by assumption)) | exact isW.gF (isR.w (by assumption)) | fail "no such object") rfl rfl (Nat.le_of_ble_eq_true rfl) (P _ D_274 o_274 T_274) (fun v_282 h_282 q_282 => ?_)
  obtain ⟨r_282, rfl, R_282⟩ := q_282
  obtain ⟨o_282, l_282⟩ := hR _ _ R_282
  unfold stO at o_282
  refine r_putf (pc := 285) dX2_readStep_285 fX2_45 o_282 (by omega) (by first | rfl | exact narrow_rf _ _) (by first | rfl | exact fits_rf _ _) (Nat.le_of_ble_eq_true rfl) ?_
  dsimp only [List.set]
  refine rg_gen (fun h_285 o_285 s_285 l_285 n_285 k_285 => ?_)
  refine r_goto (pc := 288) (tgt := 317) dX2_readStep_288 (by decide) ?_
  refine r_aload (pc := 317) dX2_readStep_317 rfl (by first | rfl | exact isRefV_rf _) ?_
  refine r_areturn (pc := 319) _ dX2_readStep_319 rfl (Or.inl ⟨_, rfl⟩) (by first | rfl | exact isRefV_rf _) ?_
  exact ⟨rfl, r_282, h_282, R_282, o_285, l_285, n_285, k_285, fun b hb => s_285 b hb⟩
set_option maxHeartbeats 4000000 in
set_option maxRecDepth 100000 in
theorem rk_open {G : mG} {l : Launch} (d : Nat) {h : mH} {a st : Nat} {s : Int × Int} {o z br gd kd : Int} {f : Nat → Int} {y0 : Int64} {n0 v0 : Int} {i0 nx : Option Nat} (hD : isRd h a s.1 s.2 o z f) (hs : rgS z s) (ho : InR o) (hz : 0 ≤ z ∧ z ≤ 120) (hf : bytesOk f) (hst : ¬ dBlk a st) (hlo : h.1 ≤ st) (hO : hGet h st = some (stO kd n0 v0 y0 i0 nx)) : RUN G l (d + 3) mX2_readStep 291 [some (.ref a), some (.int (J br)), some (.int (J gd)), some (.int (J kd)), some (.ref st)] [] h (fun v h' => v = some (.ref st) ∧ isRd h' a s.1 s.2 (o + 1) z f ∧ hGet h' st = some (stO kd n0 v0 y0 i0 nx) ∧ Same (fun b => dBlk a b ∨ b = st) h h') := by
  refine r_aload_n (pc := 291) dX2_readStep_291 rfl (by first | rfl | exact isRefV_rf _) ?_
  refine r_dup (pc := 292) dX2_readStep_292 (by first | rfl | (cases ‹Option Nat› <;> rfl)) ?_
  refine r_getf (pc := 293) dX2_readStep_293 fX2_59 (by first | assumption | exact isI.gx (by assumption) | exact isI.gc (by assumption) | exact isW.gx (by assumption) | exact isW.gF (by assumption) | exact isW.gT (by assumption) (by omega) | exact isW.gS (by assumption) (by omega) | exact isW.gK (by assumption) (by omega) | exact isW.g1 (by assumption) | exact isW.g2 (by assumption) | exact isW.g3 (by assumption) | exact isI.gx (isW.i0 (by assumption)) | exact isI.gc (isW.i0 (by assumption)) | exact isI.gx (isW.i1 (by assumption)) | exact isI.gc (isW.i1 (by assumption)) | exact isI.gx (isW.i2 (by assumption)) | exact isI.gc (isW.i2 (by assumption)) | exact isI.gx (isW.i3 (by assumption)) | exact isI.gc (isW.i3 (by assumption)) | exact isI.gx (isW.i4 (by assumption)) | exact isI.gc (isW.i4 (by assumption)) | exact isI.gx (isW.i5 (by assumption)) | exact isI.gc (isW.i5 (by assumption)) | exact isR.gx (by assumption) | exact isRd.gx (by assumption) | exact isSp.gx (by assumption) | exact isI.gx (isR.i (by assumption)) | exact isI.gx (isRd.i (by assumption)) | exact isI.gc (isRd.i (by assumption)) | exact isI.gx (isSp.i (by assumption)) | exact isW.gx (isR.w (by assumption)) | exact isW.gF (isR.w (by assumption)) | fail "no such object") (by rfl) ?_
  refine rj_iconst (pc := 296) dX2_readStep_296 ?_
  refine rj_iadd (pc := 297) dX2_readStep_297 ?_
  refine rc_putD3 (pc := 298) dX2_readStep_298 fX2_59 (by assumption) (fun h_298 hW_298 hS_298 => ?_)
  refine r_goto (pc := 301) (tgt := 317) dX2_readStep_301 (by decide) ?_
  refine r_aload (pc := 317) dX2_readStep_317 rfl (by first | rfl | exact isRefV_rf _) ?_
  refine r_areturn (pc := 319) _ dX2_readStep_319 rfl (Or.inl ⟨_, rfl⟩) (by first | rfl | exact isRefV_rf _) ?_
  exact ⟨rfl, hW_298, hS_298.at hst hO, hS_298.mono (fun _ q => Or.inl q)⟩
set_option maxHeartbeats 4000000 in
set_option maxRecDepth 100000 in
theorem rk_shut {G : mG} {l : Launch} (d : Nat) {h : mH} {a st : Nat} {s : Int × Int} {o z br gd kd : Int} {f : Nat → Int} {y0 : Int64} {n0 v0 : Int} {i0 nx : Option Nat} (hD : isRd h a s.1 s.2 o z f) (hs : rgS z s) (ho : InR o) (hz : 0 ≤ z ∧ z ≤ 120) (hf : bytesOk f) (hst : ¬ dBlk a st) (hlo : h.1 ≤ st) (hO : hGet h st = some (stO kd n0 v0 y0 i0 nx)) : RUN G l (d + 3) mX2_readStep 304 [some (.ref a), some (.int (J br)), some (.int (J gd)), some (.int (J kd)), some (.ref st)] [] h (fun v h' => v = some (.ref st) ∧ isRd h' a s.1 s.2 (o - 1) z f ∧ hGet h' st = some (stO kd n0 v0 y0 i0 nx) ∧ Same (fun b => dBlk a b ∨ b = st) h h') := by
  refine r_aload_n (pc := 304) dX2_readStep_304 rfl (by first | rfl | exact isRefV_rf _) ?_
  refine r_dup (pc := 305) dX2_readStep_305 (by first | rfl | (cases ‹Option Nat› <;> rfl)) ?_
  refine r_getf (pc := 306) dX2_readStep_306 fX2_59 (by first | assumption | exact isI.gx (by assumption) | exact isI.gc (by assumption) | exact isW.gx (by assumption) | exact isW.gF (by assumption) | exact isW.gT (by assumption) (by omega) | exact isW.gS (by assumption) (by omega) | exact isW.gK (by assumption) (by omega) | exact isW.g1 (by assumption) | exact isW.g2 (by assumption) | exact isW.g3 (by assumption) | exact isI.gx (isW.i0 (by assumption)) | exact isI.gc (isW.i0 (by assumption)) | exact isI.gx (isW.i1 (by assumption)) | exact isI.gc (isW.i1 (by assumption)) | exact isI.gx (isW.i2 (by assumption)) | exact isI.gc (isW.i2 (by assumption)) | exact isI.gx (isW.i3 (by assumption)) | exact isI.gc (isW.i3 (by assumption)) | exact isI.gx (isW.i4 (by assumption)) | exact isI.gc (isW.i4 (by assumption)) | exact isI.gx (isW.i5 (by assumption)) | exact isI.gc (isW.i5 (by assumption)) | exact isR.gx (by assumption) | exact isRd.gx (by assumption) | exact isSp.gx (by assumption) | exact isI.gx (isR.i (by assumption)) | exact isI.gx (isRd.i (by assumption)) | exact isI.gc (isRd.i (by assumption)) | exact isI.gx (isSp.i (by assumption)) | exact isW.gx (isR.w (by assumption)) | exact isW.gF (isR.w (by assumption)) | fail "no such object") (by rfl) ?_
  refine rj_iconst (pc := 309) dX2_readStep_309 ?_
  refine rj_isub (pc := 310) dX2_readStep_310 ?_
  refine rc_putD3 (pc := 311) dX2_readStep_311 fX2_59 (by assumption) (fun h_311 hW_311 hS_311 => ?_)
  refine r_goto (pc := 314) (tgt := 317) dX2_readStep_314 (by decide) ?_
  refine r_aload (pc := 317) dX2_readStep_317 rfl (by first | rfl | exact isRefV_rf _) ?_
  refine r_areturn (pc := 319) _ dX2_readStep_319 rfl (Or.inl ⟨_, rfl⟩) (by first | rfl | exact isRefV_rf _) ?_
  exact ⟨rfl, hW_311, hS_311.at hst hO, hS_311.mono (fun _ q => Or.inl q)⟩
set_option maxHeartbeats 4000000 in
set_option maxRecDepth 100000 in
theorem rk_nop {G : mG} {l : Launch} (d : Nat) {h : mH} {a st : Nat} {s : Int × Int} {o z br gd kd : Int} {f : Nat → Int} {y0 : Int64} {n0 v0 : Int} {i0 nx : Option Nat} (hD : isRd h a s.1 s.2 o z f) (hs : rgS z s) (ho : InR o) (hz : 0 ≤ z ∧ z ≤ 120) (hf : bytesOk f) (hst : ¬ dBlk a st) (hlo : h.1 ≤ st) (hO : hGet h st = some (stO kd n0 v0 y0 i0 nx)) : RUN G l (d + 3) mX2_readStep 317 [some (.ref a), some (.int (J br)), some (.int (J gd)), some (.int (J kd)), some (.ref st)] [] h (fun v h' => v = some (.ref st) ∧ isRd h' a s.1 s.2 o z f ∧ hGet h' st = some (stO kd n0 v0 y0 i0 nx) ∧ Same (fun b => dBlk a b ∨ b = st) h h') := by
  refine r_aload (pc := 317) dX2_readStep_317 rfl (by first | rfl | exact isRefV_rf _) ?_
  refine r_areturn (pc := 319) _ dX2_readStep_319 rfl (Or.inl ⟨_, rfl⟩) (by first | rfl | exact isRefV_rf _) ?_
  exact ⟨rfl, hD, hO, Same.refl⟩

/-! ===== the class: its reader's small ones, one outcome each; a step by its kind ===== -/
def rgS (z : Int) (s : Int × Int) : Prop := (0 ≤ s.1 ∧ s.1 ≤ z) ∧ -1 ≤ s.2 ∧ s.2 ≤ 120
theorem hereC_lt {p z : Int} {f : Nat → Int} (h : ¬ hereC p z f = -1) : p < z := by
  unfold hereC at h
  split at h
  · rename_i c; exact c.2.1
  · exact absurd rfl h
theorem rfL_z {z : Int} {f : Nat → Int} : ∀ (n : Nat) (p u : Int), p ≤ z → (rfL z f n p u).2 ≤ z
  | 0, p, u, h => h
  | n + 1, p, u, h => by
    unfold rfL
    split
    · rename_i c
      have := hereC_lt (f := f) (p := p) (z := z) (by omega)
      exact rfL_z n (p + 1) _ (by omega)
    · exact h
theorem rnL_le {z : Int} {f : Nat → Int} : ∀ (n : Nat) (p : Int) (y : Int64), p ≤ z → (rnL z f n p y).2 ≤ z
  | 0, p, y, h => h
  | n + 1, p, y, h => by
    unfold rnL
    split
    · rename_i c
      have := hereC_lt (f := f) (p := p) (z := z) (by omega)
      exact rnL_le n (p + 1) _ (by omega)
    · exact rnL_le n p _ h
section RGS
variable {z : Int} {f : Nat → Int} {s : Int × Int}
theorem ftE_g {e i : Int} (he : -1 ≤ e ∧ e ≤ 120) (hi : 0 ≤ i ∧ i ≤ 120) : -1 ≤ ftE e i ∧ ftE e i ≤ 120 := by unfold ftE; split <;> omega
theorem fgM_r {k : Int} (h : rgS z s) (hz : z ≤ 120) (hk : 0 ≤ k) : rgS z (fgM z f k s) := by
  obtain ⟨h1, h2⟩ := h
  unfold fgM
  split
  · rename_i c
    have := hereC_lt (f := f) (p := s.1) (z := z) (by omega)
    exact ⟨⟨by dsimp only; omega, by dsimp only; omega⟩, h2⟩
  · exact ⟨⟨by dsimp only; omega, by dsimp only; omega⟩, ftE_g h2 (by omega)⟩
theorem xpM_r {k : Int} (h : rgS z s) (hz : z ≤ 120) (hk : ¬ k = -1) : rgS z (xpM z f k s) := by
  obtain ⟨h1, h2⟩ := h
  unfold xpM
  split
  · rename_i c
    have := hereC_lt (f := f) (p := s.1) (z := z) (by omega)
    exact ⟨⟨by dsimp only; omega, by dsimp only; omega⟩, h2⟩
  · exact ⟨⟨by dsimp only; omega, by dsimp only; omega⟩, ftE_g h2 (by omega)⟩
theorem fsM_r {m : Nat} (h : rgS z s) (hz : z ≤ 120) : rgS z (fsM z f m s) := by
  obtain ⟨h1, h2⟩ := h
  have a := rfL_z (f := f) m s.1 0 h1.2
  unfold fsM
  split
  · exact ⟨⟨by dsimp only; omega, by dsimp only; omega⟩, h2⟩
  · exact ⟨⟨by dsimp only; omega, by dsimp only; omega⟩, ftE_g h2 (by omega)⟩
theorem mnP_r (h : 0 ≤ s.1 ∧ s.1 ≤ z) : 0 ≤ mnP s.1 z f ∧ mnP s.1 z f ≤ z := by
  unfold mnP
  split
  · have := hereC_lt (f := f) (p := s.1) (z := z) (by omega)
    omega
  · exact h
theorem vlM_r (h : rgS z s) (hz : z ≤ 120) : rgS z (vlM z f s) := by
  obtain ⟨h1, h2⟩ := h
  have m := mnP_r (f := f) h1
  have a := rfL_z (f := f) 5 (mnP s.1 z f) 0 m.2
  unfold vlM
  split
  · exact ⟨⟨by dsimp only; omega, by dsimp only; omega⟩, h2⟩
  · exact ⟨⟨by dsimp only; omega, by dsimp only; omega⟩, ftE_g h2 (by omega)⟩
theorem fnM_r (h : rgS z s) (hz : z ≤ 120) : rgS z (fnM z f s) := by
  obtain ⟨h1, h2⟩ := h
  have a := rfL_z (f := f) 2 s.1 0 h1.2
  unfold fnM
  split
  · exact ⟨⟨by dsimp only; omega, by dsimp only; omega⟩, h2⟩
  · exact ⟨⟨by dsimp only; omega, by dsimp only; omega⟩, ftE_g h2 (by omega)⟩
theorem nmM_r (h : rgS z s) (hz : z ≤ 120) : rgS z (nmM z f s) := by
  obtain ⟨h1, h2⟩ := h
  have a := rnL_le (f := f) 7 s.1 0 h1.2
  have b := rnL_p (f := f) (z := z) 7 s.1 0
  unfold nmM
  split
  · exact ⟨⟨by dsimp only; omega, by dsimp only; omega⟩, h2⟩
  · exact ⟨⟨by dsimp only; omega, by dsimp only; omega⟩, ftE_g h2 (by omega)⟩
end RGS
theorem rm_fig {G : mG} {l : Launch} (d : Nat) {h : mH} {a : Nat} {s : Int × Int} {o z : Int} {f : Nat → Int} (hD : isRd h a s.1 s.2 o z f) (hs : rgS z s) (ho : InR o) (hz : 0 ≤ z ∧ z ≤ 120) (hf : bytesOk f) {k : Int} (hk : 0 ≤ k ∧ k ≤ 10) : RUNM G l (d + 1) mX2_readFigure [.ref a, .int (J k)] h (fun v h' => v = some (.int (J (fgU z f k s.1))) ∧ isRd h' a (fgM z f k s).1 (fgM z f k s).2 o z f ∧ Same (dBlk a) h h') := by
  obtain ⟨⟨h1, h2⟩, h3, h4⟩ := hs
  have hf' : ∀ q, InR (f q) := fun q => by have := hf q; exact ⟨by omega, by omega⟩
  have hp : InR s.1 := ⟨by omega, by omega⟩
  have he : InR s.2 := ⟨by omega, by omega⟩
  have hz' : InR z := ⟨by omega, by omega⟩
  have hh : -1 ≤ hereC s.1 z f := by
    unfold hereC; split
    · have := hf s.1.toNat; omega
    · omega
  refine (rd_figure d hD hp he ho hz' hf' (k := k) ⟨by omega, by omega⟩ hk hh).mono (fun v h' g => ?_)
  unfold fgU fgM
  rcases g with ⟨c, g1, g2, g3⟩ | ⟨c, g1, g2, g3⟩
  · rw [if_pos c, if_pos c]; exact ⟨g1, g2, g3⟩
  · rw [if_neg c, if_neg c]; exact ⟨g1, g2, g3⟩
theorem rm_exp {G : mG} {l : Launch} (d : Nat) {h : mH} {a : Nat} {s : Int × Int} {o z : Int} {f : Nat → Int} (hD : isRd h a s.1 s.2 o z f) (hs : rgS z s) (ho : InR o) (hz : 0 ≤ z ∧ z ≤ 120) (hf : bytesOk f) {k : Int} (hk : InR k) : RUNM G l (d + 1) mX2_expect [.ref a, .int (J k)] h (fun v h' => v = none ∧ isRd h' a (xpM z f k s).1 (xpM z f k s).2 o z f ∧ Same (dBlk a) h h') := by
  obtain ⟨⟨h1, h2⟩, h3, h4⟩ := hs
  have hf' : ∀ q, InR (f q) := fun q => by have := hf q; exact ⟨by omega, by omega⟩
  have hp : InR s.1 := ⟨by omega, by omega⟩
  have he : InR s.2 := ⟨by omega, by omega⟩
  have hz' : InR z := ⟨by omega, by omega⟩
  have hh : -1 ≤ hereC s.1 z f := by
    unfold hereC; split
    · have := hf s.1.toNat; omega
    · omega
  refine (rd_expect d hD hp he ho hz' hf' hk).mono (fun v h' g => ?_)
  unfold xpM
  obtain ⟨g1, ⟨c, g2⟩ | ⟨c, g2⟩, g3⟩ := g
  · rw [if_pos c]; exact ⟨g1, g2, g3⟩
  · rw [if_neg c]; exact ⟨g1, g2, g3⟩
theorem rm_figs {G : mG} {l : Launch} (d : Nat) {h : mH} {a : Nat} {s : Int × Int} {o z : Int} {f : Nat → Int} (hD : isRd h a s.1 s.2 o z f) (hs : rgS z s) (ho : InR o) (hz : 0 ≤ z ∧ z ≤ 120) (hf : bytesOk f) : RUNM G l (d + 1) mX2_readFigures [.ref a, .int (J 2)] h (fun v h' => v = some (.int (J (rfL z f 2 s.1 0).1)) ∧ isRd h' a (fsM z f 2 s).1 (fsM z f 2 s).2 o z f ∧ Same (dBlk a) h h') := by
  obtain ⟨⟨h1, h2⟩, h3, h4⟩ := hs
  have hf' : ∀ q, InR (f q) := fun q => by have := hf q; exact ⟨by omega, by omega⟩
  have hp : InR s.1 := ⟨by omega, by omega⟩
  have he : InR s.2 := ⟨by omega, by omega⟩
  have hz' : InR z := ⟨by omega, by omega⟩
  have hh : -1 ≤ hereC s.1 z f := by
    unfold hereC; split
    · have := hf s.1.toNat; omega
    · omega
  refine (rd_figures d hD hp he ho hz' hf' ⟨by omega, by omega⟩ (m := 2) (by decide)).mono (fun v h' g => ?_)
  unfold fsM
  obtain ⟨g1, ⟨c, g2⟩ | ⟨c, g2⟩, g3⟩ := g
  · rw [if_pos c]; exact ⟨g1, g2, g3⟩
  · rw [if_neg (by omega)]; exact ⟨g1, g2, g3⟩
theorem rm_val {G : mG} {l : Launch} (d : Nat) {h : mH} {a : Nat} {s : Int × Int} {o z : Int} {f : Nat → Int} (hD : isRd h a s.1 s.2 o z f) (hs : rgS z s) (ho : InR o) (hz : 0 ≤ z ∧ z ≤ 120) (hf : bytesOk f) : RUNM G l (d + 2) mX2_readValue [.ref a] h (fun v h' => v = some (.int (J (rvV s.1 z f))) ∧ isRd h' a (vlM z f s).1 (vlM z f s).2 o z f ∧ Same (dBlk a) h h') := by
  obtain ⟨⟨h1, h2⟩, h3, h4⟩ := hs
  have hf' : ∀ q, InR (f q) := fun q => by have := hf q; exact ⟨by omega, by omega⟩
  have hp : InR s.1 := ⟨by omega, by omega⟩
  have he : InR s.2 := ⟨by omega, by omega⟩
  have hz' : InR z := ⟨by omega, by omega⟩
  have hh : -1 ≤ hereC s.1 z f := by
    unfold hereC; split
    · have := hf s.1.toNat; omega
    · omega
  refine (rd_value d hD hp he ho hz' hf' ⟨by omega, by omega⟩).mono (fun v h' g => ?_)
  unfold vlM
  obtain ⟨g1, ⟨c, g2⟩ | ⟨c, g2⟩, g3⟩ := g
  · rw [if_pos c]; exact ⟨g1, g2, g3⟩
  · rw [if_neg (by omega)]; exact ⟨g1, g2, g3⟩
theorem rm_fn {G : mG} {l : Launch} (d : Nat) {h : mH} {a : Nat} {s : Int × Int} {o z : Int} {f : Nat → Int} (hD : isRd h a s.1 s.2 o z f) (hs : rgS z s) (ho : InR o) (hz : 0 ≤ z ∧ z ≤ 120) (hf : bytesOk f) : RUNM G l (d + 2) mX2_readFaultNumber [.ref a] h (fun v h' => v = some (.int (J (rfL z f 2 s.1 0).1)) ∧ isRd h' a (fnM z f s).1 (fnM z f s).2 o z f ∧ Same (dBlk a) h h') := by
  obtain ⟨⟨h1, h2⟩, h3, h4⟩ := hs
  have hf' : ∀ q, InR (f q) := fun q => by have := hf q; exact ⟨by omega, by omega⟩
  have hp : InR s.1 := ⟨by omega, by omega⟩
  have he : InR s.2 := ⟨by omega, by omega⟩
  have hz' : InR z := ⟨by omega, by omega⟩
  have hh : -1 ≤ hereC s.1 z f := by
    unfold hereC; split
    · have := hf s.1.toNat; omega
    · omega
  have hr0 : InR (rfL z f 2 s.1 0).1 := by
    have e := rfL_n (f := f) hz.2 2 (s.1, 0, 0, 0, 0) h1
    dsimp only at e
    have b := numL_v (f := f) (z := z) 2 (s.1, 0, 0, 0, 0) (Int.le_refl _)
    dsimp only at b
    rw [show ((0 : Int) + 1) * tenP 2 = 100 by decide] at b
    rw [e]; exact ⟨by dsimp only; omega, by dsimp only; omega⟩
  refine (rd_faultNumber d hD hp he ho hz' hf' ⟨by omega, by omega⟩ hr0).mono (fun v h' g => ?_)
  unfold fnM
  obtain ⟨g1, ⟨c, c2, g2⟩ | ⟨c, g2⟩, g3⟩ := g
  · rw [if_pos ⟨c, c2⟩]; exact ⟨g1, g2, g3⟩
  · rw [if_neg (fun g => by rcases c with c | c; omega; exact g.2 c)]; exact ⟨g1, g2, g3⟩
theorem rm_name {G : mG} {l : Launch} (d : Nat) {h : mH} {a : Nat} {s : Int × Int} {o z : Int} {f : Nat → Int} (hD : isRd h a s.1 s.2 o z f) (hs : rgS z s) (ho : InR o) (hz : 0 ≤ z ∧ z ≤ 120) (hf : bytesOk f) : RUNM G l (d + 1) mX2_readName [.ref a] h (fun v h' => (∃ y, v = some (.long y) ∧ ((97 ≤ hereC s.1 z f ∧ hereC s.1 z f ≤ 122) → y = (rnL z f 7 s.1 0).1)) ∧ isRd h' a (nmM z f s).1 (nmM z f s).2 o z f ∧ Same (dBlk a) h h') := by
  obtain ⟨⟨h1, h2⟩, h3, h4⟩ := hs
  have hf' : ∀ q, InR (f q) := fun q => by have := hf q; exact ⟨by omega, by omega⟩
  have hp : InR s.1 := ⟨by omega, by omega⟩
  have he : InR s.2 := ⟨by omega, by omega⟩
  have hz' : InR z := ⟨by omega, by omega⟩
  have hh : -1 ≤ hereC s.1 z f := by
    unfold hereC; split
    · have := hf s.1.toNat; omega
    · omega
  refine (rd_name d hD hp he ho hz' hf' ⟨by omega, by omega⟩ hz).mono (fun v h' g => ?_)
  unfold nmM
  rcases g with ⟨c, g1, g2, g3⟩ | ⟨c, ⟨y, g1⟩, g2, g3⟩
  · rw [if_pos c]; exact ⟨⟨_, g1, fun _ => rfl⟩, g2, g3⟩
  · rw [if_neg c]; exact ⟨⟨y, g1, fun q => absurd q c⟩, g2, g3⟩

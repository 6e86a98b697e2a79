section mg_71
end mg_71
section mg_72
/-! ===== the reference: close, shut, thoughts, the image ===== -/
theorem arrV_same {cI : ClassId} {n : Nat} {f g : Nat → Value} (h : ∀ j, j < n → f j = g j) : arrV cI n f = arrV cI n g := by
  unfold arrV
  rw [show (fun j : Fin n => f j.val) = (fun j : Fin n => g j.val) from funext (fun j => h j.val j.isLt)]
/-- a row of ints is known up to its size -/
theorem RUN.norm {G : mG} {l : Launch} {d : Nat} {M : mM} {pc : Nat} {ls : List (Option Value)} {st : List Value} {h : mH} {Q : Option Value → mH → Prop} {a n : Nat} {f f' : Nat → Int32} (hlo : h.1 ≤ a) (hg : hGet h a = some (.inr (.inl (n, f)))) (he : ∀ q, q < n → f q = f' q) (K : RUN G l d M pc ls st (hPut h a (.inr (.inl (n, f')))) Q) : RUN G l d M pc ls st h Q := by
  refine RUN.step (h2 := hPut h a (.inr (.inl (n, f')))) (pc2 := pc) (ls2 := ls) (st2 := st) (fun v h' b => ⟨b.1, fun p e R s m args below meth c H locs cells slots kC kS Q lsR C S r1 r2 r3 r4 K => ?_⟩) K
  refine b.2 p e R s m args below meth c H locs cells slots kC kS Q lsR C ⟨S.1.put rfl (fun q _ => rfl) ?_, S.2⟩ r1 r2 r3 r4 K
  rcases S.1.2.2 a _ hg with ⟨cA, h1, h2⟩ | ⟨h1, -⟩
  · exact Or.inl ⟨cA, h1, by rw [h2, vp_cell_i, vp_cell_i, arrV_same (fun j hj => by rw [he j hj])]⟩
  · exact absurd hlo (by omega)
theorem isM.cp0 {h h' : mH} {x : Nat} {fs : List Value} {m kp was pool tape pln pap rwd rw m' : Nat → Int} (k : isM h x fs m kp was pool tape pln pap rwd rw) (S : Same (fun b => b = mAd x 0) h h') (g : hGet h' (mAd x 0) = some (.inr (.inl (2928, fun q => J (m' q))))) : isM h' x fs m' kp was pool tape pln pap rwd rw := ⟨by rw [S.1]; exact k.lo, (S.2.2.2 _ x_mAd).trans k.gx, g, (S.2.2.2 _ (mAd_ne (by decide))).trans k.g1, (S.2.2.2 _ (mAd_ne (by decide))).trans k.g2, (S.2.2.2 _ (mAd_ne (by decide))).trans k.g3, (S.2.2.2 _ (mAd_ne (by decide))).trans k.g4, (S.2.2.2 _ (mAd_ne (by decide))).trans k.g5, (S.2.2.2 _ (mAd_ne (by decide))).trans k.g6, (S.2.2.2 _ (mAd_ne (by decide))).trans k.g7, (S.2.2.2 _ (mAd_ne (by decide))).trans k.g8⟩
theorem Same.blk0 {h h' : mH} {x : Nat} (S : Same (fun b => b = mAd x 0) h h') : Same (mBlk x) h h' := S.mono (fun b hb => hb ▸ mAd_blk (by decide))
theorem isM.cp1 {h h' : mH} {x : Nat} {fs : List Value} {m kp was pool tape pln pap rwd rw kp' : Nat → Int} (k : isM h x fs m kp was pool tape pln pap rwd rw) (S : Same (fun b => b = mAd x 1) h h') (g : hGet h' (mAd x 1) = some (.inr (.inl (2928, fun q => J (kp' q))))) : isM h' x fs m kp' was pool tape pln pap rwd rw := ⟨by rw [S.1]; exact k.lo, (S.2.2.2 _ x_mAd).trans k.gx, (S.2.2.2 _ (mAd_ne (by decide))).trans k.g0, g, (S.2.2.2 _ (mAd_ne (by decide))).trans k.g2, (S.2.2.2 _ (mAd_ne (by decide))).trans k.g3, (S.2.2.2 _ (mAd_ne (by decide))).trans k.g4, (S.2.2.2 _ (mAd_ne (by decide))).trans k.g5, (S.2.2.2 _ (mAd_ne (by decide))).trans k.g6, (S.2.2.2 _ (mAd_ne (by decide))).trans k.g7, (S.2.2.2 _ (mAd_ne (by decide))).trans k.g8⟩
theorem Same.blk1 {h h' : mH} {x : Nat} (S : Same (fun b => b = mAd x 1) h h') : Same (mBlk x) h h' := S.mono (fun b hb => hb ▸ mAd_blk (by decide))
theorem isM.cp2 {h h' : mH} {x : Nat} {fs : List Value} {m kp was pool tape pln pap rwd rw was' : Nat → Int} (k : isM h x fs m kp was pool tape pln pap rwd rw) (S : Same (fun b => b = mAd x 2) h h') (g : hGet h' (mAd x 2) = some (.inr (.inl (2928, fun q => J (was' q))))) : isM h' x fs m kp was' pool tape pln pap rwd rw := ⟨by rw [S.1]; exact k.lo, (S.2.2.2 _ x_mAd).trans k.gx, (S.2.2.2 _ (mAd_ne (by decide))).trans k.g0, (S.2.2.2 _ (mAd_ne (by decide))).trans k.g1, g, (S.2.2.2 _ (mAd_ne (by decide))).trans k.g3, (S.2.2.2 _ (mAd_ne (by decide))).trans k.g4, (S.2.2.2 _ (mAd_ne (by decide))).trans k.g5, (S.2.2.2 _ (mAd_ne (by decide))).trans k.g6, (S.2.2.2 _ (mAd_ne (by decide))).trans k.g7, (S.2.2.2 _ (mAd_ne (by decide))).trans k.g8⟩
theorem Same.blk2 {h h' : mH} {x : Nat} (S : Same (fun b => b = mAd x 2) h h') : Same (mBlk x) h h' := S.mono (fun b hb => hb ▸ mAd_blk (by decide))
theorem cpF_lt {f g : Nat → Int} {q : Nat} (h : q < 2928) : cpF f g 2928 q = f q := if_pos h
theorem cpF_cp {f g k : Nat → Int} {q : Nat} (h : q < 2928) : cpF (cpF f g 2928) k 2928 q = f q := by
  unfold cpF; rw [if_pos h, if_pos h]
def closeN (m : Nat → Int) (t : Int) : Int := if 0 ≤ t ∧ t ≤ m 1 - 1 then -3 else -1
abbrev closeDo (m : Nat → Int) (t : Int) : Prop := (0 ≤ t ∧ t ≤ m 1 - 1) ∧ m (258 + 14 * t).toNat = 0
def shutN (m : Nat → Int) (s : Int) : Int := if 0 ≤ s ∧ s ≤ m 0 - 1 then -3 else -1
end mg_72

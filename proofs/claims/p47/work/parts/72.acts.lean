/-! ===== the reference: close, shut, thoughts, the image ===== -/
theorem arrV_same {cI : ClassId} {n : Nat} {f g : Nat → Value} (h : ∀ j, j < n → f j = g j) : arrV cI n f = arrV cI n g := by
  unfold arrV
  rw [show (fun j : Fin n => f j.val) = (fun j : Fin n => g j.val) from funext (fun j => h j.val j.isLt)]
/-- a row of ints is known up to its size -/
theorem RUN.norm {G : mG} {l : Launch} {d : Nat} {M : mM} {pc : Nat} {ls : List (Option Value)} {st : List Value} {h : mH} {Q : Option Value → mH → Prop} {a n : Nat} {f f' : Nat → Int32} (hlo : h.1 ≤ a) (hg : hGet h a = some (.inr (.inl (n, f)))) (he : ∀ q, q < n → f q = f' q) (K : RUN G l d M pc ls st (hPut h a (.inr (.inl (n, f')))) Q) : RUN G l d M pc ls st h Q := by
  refine RUN.step (h2 := hPut h a (.inr (.inl (n, f')))) (pc2 := pc) (ls2 := ls) (st2 := st) (fun v h' b => ⟨b.1, fun p e R s m args below meth c H locs cells slots kC kS Q lsR C S r1 r2 r3 r4 K => ?_⟩) K
  refine b.2 p e R s m args below meth c H locs cells slots kC kS Q lsR C ⟨S.1.put hlo rfl (fun q _ => rfl) ?_, S.2⟩ r1 r2 r3 r4 K
  rcases S.1.2.2.1 a _ hg with ⟨cA, h1, h2⟩ | ⟨h1, -⟩
  · exact Or.inl ⟨cA, h1, by rw [h2, vp_cell_i, vp_cell_i, arrV_same (fun j hj => by rw [he j hj])]⟩
  · exact absurd hlo (by omega)
theorem cpF_lt {f g : Nat → Int} {q : Nat} (h : q < 2928) : cpF f g 2928 q = f q := if_pos h
theorem cpF_cp {f g k : Nat → Int} {q : Nat} (h : q < 2928) : cpF (cpF f g 2928) k 2928 q = f q := by
  unfold cpF; rw [if_pos h, if_pos h]
def closeN (m : Nat → Int) (t : Int) : Int := if 0 ≤ t ∧ t ≤ m 1 - 1 then -3 else -1
abbrev closeDo (m : Nat → Int) (t : Int) : Prop := (0 ≤ t ∧ t ≤ m 1 - 1) ∧ m (258 + 14 * t).toNat = 0
def shutN (m : Nat → Int) (s : Int) : Int := if 0 ≤ s ∧ s ≤ m 0 - 1 then -3 else -1
def wouldV (m w : Nat → Int) (k : Int) : Int := if k = 0 then m 5 else if k = 1 then (if m 5 = 0 then 0 else m 2688) else if k = 2 then (if m 5 = 0 then -1 else m 2689) else if k = 3 then m 2 - w 2 else if k = 4 then m 1 - w 1 else cnt (heldB m) (m 1).toNat
def trialV (m : Nat → Int) (t k : Int) : Int := if k = 0 then manyV m (m 4).toNat t else if k = 1 then (if manyV m (m 4).toNat t = 0 then 0 else faultAtV m (m 4).toNat t 0 0) else if k = 2 then (if manyV m (m 4).toNat t = 0 then -1 else faultAtV m (m 4).toNat t 0 1) else if k = 3 then m (1610 + 72 * t).toNat else if k = 4 then m (1612 + 72 * t).toNat else m 2
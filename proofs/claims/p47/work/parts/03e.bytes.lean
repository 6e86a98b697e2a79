/-! ===== bytes, statics, String constants, inherited and super calls ===== -/
def byt (bs : List Int32) : mO := .inl (1000, bs.map .int)
def bOk (bs : List Int32) : Prop := ∀ b ∈ bs, fits .byte (.int b) = true
/-- a row of bytes: one of ours, or one that was there -/
def isBy (G : mG) (h : mH) (a : Nat) (bs : List Int32) : Prop := hGet h a = some (byt bs) ∨ ∃ k, k < 18 ∧ a = kkV G k ∧ bs = kByt k
theorem kByt_ok : ∀ k, k < 18 → bOk (kByt k) := by
  have h : ∀ k, k < 18 → ((kByt k).all fun b => fits .byte (.int b)) = true := by decide +kernel
  intro k hk b hb
  exact List.all_eq_true.mp (h k hk) b hb
theorem kByt_l : ∀ k, k < 18 → (kByt k).length ≤ 100 := by decide +kernel
theorem vInj : ∀ {a b : List Int32}, a.map Value.int = b.map Value.int → a = b
  | [], [], _ => rfl
  | [], _ :: _, h => by cases h
  | _ :: _, [], h => by cases h
  | x :: a, y :: b, h => by
    simp only [List.map_cons, List.cons.injEq, Value.int.injEq] at h
    rw [h.1, vInj h.2]
section RB
variable {G : mG} {l : Launch} {d : Nat} {M M2 : mM} {pc : Nat} {ls : List (Option Value)} {st : List Value} {h : mH} {Q Q2 : Option Value → mH → Prop}
theorem m_by {s : State} {H : Heap} {a : Nat} {bs : List Int32} (hH : mHOk G s h H) (ho : hGet h a = some (byt bs)) : ∃ cA : ClassId, G.2[5]? = some (cA, FieldType.byte) ∧ bOk bs ∧ H[a]? = some (vp_cell cA (bs.length, .inl (fun j => bs.getD j 0))) := by
  rcases hH.2.2.1 a _ ho with ⟨h0, -⟩ | ⟨-, cA, bs', h1, ⟨h2, h3⟩, h4⟩
  · exact absurd rfl h0
  · obtain rfl := vInj h2
    exact ⟨cA, h1, h3, h4⟩
/-- what a byte row is in the machine, old or ours -/
theorem m_byX {s : State} {H : Heap} {a : Nat} {bs : List Int32} (hK : va_K G.1 vwCl G.2 s) (hH : mHOk G s h H) (ho : isBy G h a bs) : ∃ scr : Cell, H[a]? = some scr ∧ s.isArrayOf scr .byte ∧ scr.vm ≠ .unknown ∧ bs.length ≤ scr.slots.size ∧ scr.slots.size.toInt32 = Int32.ofNat bs.length ∧ (∀ j, j < bs.length → scr.slots[j]? = some (.int (bs.getD j 0))) ∧ bOk bs := by
  rcases ho with ho | ⟨k, hk, rfl, rfl⟩
  · obtain ⟨cA, h1, h2, h3⟩ := m_by hH ho
    refine ⟨_, h3, (m_tyOf hK h1).1 bs.length (fun j => .int (bs.getD j 0)), (fun q => by cases q), ?_, ?_, fun j hj => ?_, h2⟩
    · rw [vp_cell_i, arrV_size]; exact Nat.le_refl _
    · rw [vp_cell_i, arrV_size]
    · rw [vp_cell_i, arrV_read _ _ hj]
  · obtain ⟨cell, h1, h2, h3, h4, h5, h6, -⟩ := hH.2.2.2.2.2 k hk
    exact ⟨cell, h1, h2, h3, h4, h5, h6, kByt_ok k hk⟩
theorem r_bald {a : Nat} {bs : List Int32} {i : Int32} (hdg : decode M.2.1 pc = .ok (.baload, 1)) (ho : isBy G h a bs) (hin : vp_in i bs.length) (K : RUN G l d M (pc + 1) ls (.int (bs.getD i.toNatClampNeg 0) :: st) h Q) : RUN G l d M pc ls (.int i :: .ref a :: st) h Q := by
  refine r_pure (fun {p e R s m args below meth c H locs cells slots Q lsR} hx hb hown hts L hK hH w => ?_) K
  have hlt : i.toNatClampNeg < bs.length := Nat.not_le.mp fun q => hin (Or.inr q)
  have h0 : ¬ i < 0 := fun q => hin (Or.inl q)
  obtain ⟨scr, h2, h3, h4, h5, -, h6, -⟩ := m_byX hK hH ho
  exact W.bald (v := .int (bs.getD i.toNatClampNeg 0)) hx hb h2 h3 h4 (fun q => by rcases q with q | q <;> first | exact h0 q | omega) (h6 _ hlt) rfl rfl hdg w
theorem r_alenB {a : Nat} {bs : List Int32} (hdg : decode M.2.1 pc = .ok (.arraylength, 1)) (ho : isBy G h a bs) (K : RUN G l d M (pc + 1) ls (.int (Int32.ofNat bs.length) :: st) h Q) : RUN G l d M pc ls (.ref a :: st) h Q := by
  refine r_pure (fun {p e R s m args below meth c H locs cells slots Q lsR} hx hb hown hts L hK hH w => ?_) K
  obtain ⟨scr, h2, h3, h4, h5, h6, -, -⟩ := m_byX hK hH ho
  exact W.alen (n := Int32.ofNat bs.length) hx hb h2 h3 h6 rfl rfl hdg w
theorem bOk_set {bs : List Int32} (h : bOk bs) {x : Int32} (hx : fits .byte (.int x) = true) (i : Nat) : bOk (bs.set i x) := by
  intro b hb
  rcases List.mem_or_eq_of_mem_set hb with q | q
  · exact h b q
  · rw [q]; exact hx
theorem r_bast {a : Nat} {bs : List Int32} {i x : Int32} (hdg : decode M.2.1 pc = .ok (.bastore, 1)) (ho : hGet h a = some (byt bs)) (hlo : h.1 ≤ a) (hin : vp_in i bs.length) (hx8 : x.toInt8.toInt32 = x) (hf : fits .byte (.int x) = true) (K : RUN G l d M (pc + 1) ls st (hPut h a (byt (bs.set i.toNatClampNeg x))) Q) : RUN G l d M pc ls (.int x :: .int i :: .ref a :: st) h Q := by
  refine r_put hlo (fun {p e R s m args below meth c H locs cells slots Q lsR} C0 hH L w => ?_) K
  obtain ⟨hx, hb, -, -, hown, hts, -, -, hK, -, -⟩ := C0
  have hK := hK.1
  have hlt : i.toNatClampNeg < bs.length := Nat.not_le.mp fun q => hin (Or.inr q)
  obtain ⟨cA, h1, hbk, h2⟩ := m_by hH ho
  refine W.bast hx hb h2 ((m_tyOf hK h1).1 bs.length (fun j => .int (bs.getD j 0))) (fun q => by cases q) (by show ¬ (i < 0 ∨ (arrV _ _ _).slots.size ≤ _); rw [arrV_size]; exact hin) rfl rfl hdg fun H1 e z oq => ?_
  refine w H1 _ (fun x hx => by
    rcases List.mem_append.mp hx with g | g
    · exact Or.inl g
    · rw [List.mem_singleton.mp g]; exact Or.inr rfl) z oq (Or.inr ⟨rfl, cA, _, h1, ⟨rfl, bOk_set hbk hf _⟩, ?_⟩)
  rw [e, show narrow .byte (.int x) = .int x from congrArg Value.int hx8, vp_cell_i, vp_cell_i, arrV_store, List.length_set]
  congr 2
  funext q
  by_cases hq : q = i.toNatClampNeg
  · subst hq
    simp [updV, List.getD_eq_getElem?_getD, List.getElem?_set, hlt]
  · simp [updV, hq, List.getD_eq_getElem?_getD, List.getElem?_set, Ne.symm hq]
theorem getD_rep (n j : Nat) : (List.replicate n (0 : Int32)).getD j 0 = 0 := by
  rw [List.getD_eq_getElem?_getD, List.getElem?_replicate]
  split <;> rfl
theorem r_newaB {n : Int32} {N : Nat} (hdg : decode M.2.1 pc = .ok (.newarray .byte, 2)) (hG : G.2.map Prod.snd = mTy) (hw : Cond.arrayClass .byte ∈ lw_use) (hn : ¬ n < 0) (hN : n.toNatClampNeg = N) (hby : N * 1 ≤ 536870912)
    (K : RUN G l d M (pc + 2) ls (.ref h.2.1 :: st) (hNew h N (byt (List.replicate N 0))) Q) : RUN G l d M pc ls (.int n :: st) h Q := by
  obtain ⟨cA0, h0⟩ := m_ty0 (G := G) (t := 5) hG rfl
  refine r_new (fun {p e R s m args below meth c H locs cells slots Q lsR} C0 hH L r1 r2 w => ?_) K
  obtain ⟨hx, hb, -, -, hown, hts, -, -, hK, -, -⟩ := C0
  have hK := hK.1
  refine va_newaK hx hb (atype := .byte) (hts _ hw) rfl hdg rfl hn hN hby r1 r2 hH.1 fun H1 cA e1 z1 o1 hAr hNm => ?_
  refine w H1 (by rw [z1, hH.1]) (fun q hq => o1 q (by rw [← hH.1]; exact hq)) (Or.inr ⟨rfl, cA0, _, h0, ⟨rfl, fun b hb => by rw [List.eq_of_mem_replicate hb]; rfl⟩, ?_⟩)
  have hcc : cA = cA0 := Option.some.inj (hNm.symm.trans (m_tyOf hK h0).2)
  subst hcc
  rw [e1, List.length_replicate, vp_cell_i]
  congr 2
  funext q
  rw [getD_rep]
  rfl
/-- n bytes of one row from sp on in another from dp on -/
def cpB (b0 b1 : List Int32) (sp dp n : Nat) : List Int32 := (List.range b1.length).map (va_cpy (fun j => b0.getD j 0) (fun j => b1.getD j 0) sp dp n)
theorem cpB_l {b0 b1 : List Int32} {sp dp n : Nat} : (cpB b0 b1 sp dp n).length = b1.length := by simp [cpB]
theorem cpB_getD {b0 b1 : List Int32} {sp dp n j : Nat} (h : dp + n ≤ b1.length) : (cpB b0 b1 sp dp n).getD j 0 = va_cpy (fun j => b0.getD j 0) (fun j => b1.getD j 0) sp dp n j := by
  by_cases hj : j < b1.length
  · simp [cpB, List.getD_eq_getElem?_getD, List.getElem?_map, List.getElem?_range hj]
  · have : ¬ (dp ≤ j ∧ j < dp + n) := fun q => by omega
    simp [cpB, va_cpy, this, List.getD_eq_getElem?_getD, List.getElem?_eq_none (l := b1) (i := j) (by omega), List.getElem?_eq_none (l := List.range b1.length) (i := j) (by simp; omega)]
theorem bOk_cp {b0 b1 : List Int32} {sp dp n : Nat} (h0 : bOk b0) (h1 : bOk b1) : bOk (cpB b0 b1 sp dp n) := by
  have z : ∀ (b : List Int32), bOk b → ∀ j, fits .byte (.int (b.getD j 0)) = true := fun b hb j => by
    rw [List.getD_eq_getElem?_getD]
    cases e : b[j]? with
    | none => rfl
    | some x => exact hb x (List.mem_of_getElem? e)
  intro b hb
  obtain ⟨j, -, rfl⟩ := List.mem_map.mp hb
  show fits .byte (.int (va_cpy _ _ _ _ _ _)) = true
  unfold va_cpy
  split
  · exact z b0 h0 _
  · exact z b1 h1 _
theorem r_copyB {index a0 a : Nat} {b0 b1 : List Int32} {sp dp n : Int32} (hdg : decode M.2.1 pc = .ok (.invokestatic index, 3)) (hw : Cond.methodLink M.1.cls index arraycopyName ∈ lw_use) (ho0 : isBy G h a0 b0) (ho1 : hGet h a = some (byt b1)) (hlo : h.1 ≤ a)
    (h1 : ¬ sp < 0) (h2 : ¬ dp < 0) (h3 : ¬ n < 0) (h4 : sp.toNatClampNeg + n.toNatClampNeg ≤ b0.length) (h5 : dp.toNatClampNeg + n.toNatClampNeg ≤ b1.length) (hW : (st.map fun v => v.category).sum ≤ 8)
    (K : RUN G l (d + 1) M (pc + 3) ls st (hPut h a (byt (cpB b0 b1 sp.toNatClampNeg dp.toNatClampNeg n.toNatClampNeg))) Q) : RUN G l (d + 1) M pc ls (.int n :: .int dp :: .ref a :: .int sp :: .ref a0 :: st) h Q := by
  have nn : ∀ z : Int32, ¬ z < 0 → z.toInt = (z.toNatClampNeg : Int) := by
    intro z hz
    have hz0 : (0 : Int) ≤ z.toInt := by
      have := Int32.not_lt.mp hz
      simpa using Int32.le_iff_toInt_le.mp this
    show z.toInt = ((z.toInt.toNat : Nat) : Int)
    omega
  refine r_put hlo (fun {p e R s m args below meth c H locs cells slots Q lsR} C hH hL w => ?_) K
  obtain ⟨hx, hb, -, hml, hown, hts, -, -, hK, hfr, hloc⟩ := C
  obtain ⟨scr, hc0, q1, q2, q3, -, q4, q5⟩ := m_byX hK.1 hH ho0
  obtain ⟨c1, z1, z2, hc1⟩ := m_by hH ho1
  intro T hT X
  obtain ⟨q6, k0, hk0, cm0, hkk0⟩ := q1
  obtain ⟨-, k1, hk1, cm1, hkk1⟩ := (m_tyOf hK.1 z1).1 b1.length (fun j => .int (b1.getD j 0))
  have hfit : ∀ j, j < b0.length → fits .byte (.int (b0.getD j 0)) = true := fun j hj => q5 _ (by rw [List.getD_eq_getElem?_getD, List.getElem?_eq_getElem hj]; exact List.getElem_mem hj)
  obtain ⟨vm', X', step⟩ := X.arraycopy hx hown (hts _ hw) (hts _ lw_ac.1) (hts _ lw_ac.2.1) (hts _ lw_ac.2.2) (src := a0) (dst := a) (cs := scr) (cd := vp_cell c1 (b1.length, .inl (fun j => b1.getD j 0))) (srcPos := sp) (destPos := dp) (n := n) (by rw [hT]; exact hc0) (by rw [hT]; exact hc1)
    q6 (fun _ h => by cases h) q2 (fun h => by cases h) hk0 hk1 hkk0 hkk1 (by simp [refKind]) h1 h2 h3
    (by rw [nn sp h1, nn n h3]; omega)
    (by rw [nn dp h2, nn n h3]; show ¬ _ > ((arrV c1 b1.length (fun j => .int (b1.getD j 0))).slots.size : Int); rw [arrV_size]; omega)
    (fun vm₁ _ i hi => by
      have e : scr.slots.getD (sp.toNatClampNeg + i) .null = .int (b0.getD (sp.toNatClampNeg + i) 0) := by
        rw [Array.getD_eq_getD_getElem?, q4 _ (by omega)]
        rfl
      refine ⟨?_, ?_⟩
      · rw [e]
        exact hfit _ (by omega)
      · rw [e]
        exact trivial)
    (g := F0 m pc lsR (.int n :: .int dp :: .ref a :: .int sp :: .ref a0 :: st)) rfl (by rw [hml]; exact hL.1) (rest := st) rfl (by rw [hb]; exact hdg) (by omega) (by
      have z := lv_room (m := m) (pc := pc) (ls := lsR) (rest := st) hW
      have z2 : nativeFrameWords "java/lang/System" "arraycopy" 5 ≤ 12 := by decide +kernel
      show 2 * 0 + _ + _ ≤ _
      omega)
  have e1 : copied scr (vp_cell c1 (b1.length, .inl (fun j => b1.getD j 0))) sp dp n = vp_cell c1 ((cpB b0 b1 sp.toNatClampNeg dp.toNatClampNeg n.toNatClampNeg).length, .inl (fun j => (cpB b0 b1 sp.toNatClampNeg dp.toNatClampNeg n.toNatClampNeg).getD j 0)) := by
    rw [cpB_l, show (fun j => (cpB b0 b1 sp.toNatClampNeg dp.toNatClampNeg n.toNatClampNeg).getD j 0) = va_cpy (fun j => b0.getD j 0) (fun j => b1.getD j 0) sp.toNatClampNeg dp.toNatClampNeg n.toNatClampNeg from funext fun j => cpB_getD h5]
    exact va_copiedX (fun z => .int z) scr c1 (fun j => b0.getD j 0) (fun j => b1.getD j 0) q4 h4
  rw [e1] at X' step
  generalize hcell : vp_cell c1 ((cpB b0 b1 sp.toNatClampNeg dp.toNatClampNeg n.toNatClampNeg).length, .inl (fun j => (cpB b0 b1 sp.toNatClampNeg dp.toNatClampNeg n.toNatClampNeg).getD j 0)) = cN at X' step
  have hl : a < H.size := (Array.getElem?_eq_some_iff.mp hc1).1
  have hheap : ((T.setVm vm').setCell a cN).heap = H.setIfInBounds a cN := by rw [← hT]; rfl
  have oq : ∀ q : Nat, q ≠ a → (H.setIfInBounds a cN)[q]? = H[q]? := fun q hq => by simp [Array.getElem?_setIfInBounds, Ne.symm hq]
  obtain ⟨t, a1, b1⟩ := w _ _ (fun x hx => by
      rcases List.mem_append.mp hx with g | g
      · exact Or.inl g
      · obtain ⟨z, -, hz⟩ := List.mem_map.mp g
        rw [← hz]
        exact Or.inr rfl) (by simp) oq (Or.inr ⟨rfl, c1, _, z1, ⟨rfl, bOk_cp q5 z2⟩, by rw [hcell]; simp [Array.getElem?_setIfInBounds, hl]⟩) _ hheap X'
  exact ⟨t, step t a1, b1⟩
/-! statics -/
theorem m_gets {C n dd : String} {v : Value} {index : Nat} (hdg : decode M.2.1 pc = .ok (.getstatic index, 3)) (hw : Cond.fieldLink M.1.cls index C n dd ∈ lw_use) (hZ : ∀ {s : State} {H : Heap}, mHOk G s h H → va_Z C n dd v (fun q => h.1 ≤ q) s H)
    (K : RUN G l d M (pc + 3) ls (v :: st) h Q) : RUN G l d M pc ls st h Q := by
  refine r_pure (fun {p e R s m args below meth c H locs cells slots Q lsR} hx hb hown hts L hK hH w => ?_) K
  obtain ⟨cf, kf, fi, f, a, cell, h1, h2, h3, h4, h5, h6, h7, h8⟩ := hZ hH
  exact W.gets hx hb hown (hts _ hw) h1 h2 h3 h4 h5 (fun e => by rw [e] at h6; cases h6) h7 rfl hdg w
theorem r_getCompact {index : Nat} (hdg : decode M.2.1 pc = .ok (.getstatic index, 3)) (hw : Cond.fieldLink M.1.cls index "java/lang/String" "COMPACT_STRINGS" "Z" ∈ lw_use) (K : RUN G l d M (pc + 3) ls (.int 1 :: st) h Q) : RUN G l d M pc ls st h Q := m_gets hdg hw (fun hH => hH.2.2.2.1.1) K
theorem r_getOnes {index : Nat} (hdg : decode M.2.1 pc = .ok (.getstatic index, 3)) (hw : Cond.fieldLink M.1.cls index "java/lang/Integer" "DigitOnes" "[B" ∈ lw_use) (K : RUN G l d M (pc + 3) ls (.ref (kkV G 16) :: st) h Q) : RUN G l d M pc ls st h Q := m_gets hdg hw (fun hH => hH.2.2.2.1.2.2.1) K
theorem r_getTens {index : Nat} (hdg : decode M.2.1 pc = .ok (.getstatic index, 3)) (hw : Cond.fieldLink M.1.cls index "java/lang/Integer" "DigitTens" "[B" ∈ lw_use) (K : RUN G l d M (pc + 3) ls (.ref (kkV G 17) :: st) h Q) : RUN G l d M pc ls st h Q := m_gets hdg hw (fun hH => hH.2.2.2.1.2.2.2) K
/-! Strings: one of ours, or a constant -/
def isStr (G : mG) (h : mH) (a : Nat) (t : List Int32) : Prop := (∃ (v : Nat) (hs hz : Int32), hGet h a = some (.inl (11, [.ref v, .int 0, .int hs, .int hz])) ∧ hGet h v = some (byt t)) ∨ ∃ k, k < 16 ∧ a = kkA G k ∧ t = kByt k
/-- a String's bytes, and where they lie -/
def isStV (G : mG) (h : mH) (a v : Nat) (t : List Int32) : Prop := isBy G h v t ∧ ((∃ (hs hz : Int32), hGet h a = some (.inl (11, [.ref v, .int 0, .int hs, .int hz]))) ∨ ∃ k, k < 16 ∧ a = kkA G k ∧ v = kkV G k)
theorem isStr.v {a : Nat} {t : List Int32} (k : isStr G h a t) : ∃ v, isStV G h a v t := by
  rcases k with ⟨v, hs, hz, k1, k2⟩ | ⟨k, k1, k2, k3⟩
  · exact ⟨v, Or.inl k2, Or.inl ⟨hs, hz, k1⟩⟩
  · exact ⟨kkV G k, Or.inr ⟨k, by omega, rfl, k3⟩, Or.inr ⟨k, k1, k2, rfl⟩⟩
theorem r_getSv {index a v : Nat} {t : List Int32} (hdg : decode M.2.1 pc = .ok (.getfield index, 3)) (hf : mFld M.1.cls index 11 0 (.array .byte) true) (ho : isStV G h a v t) (K : RUN G l d M (pc + 3) ls (.ref v :: st) h Q) : RUN G l d M pc ls (.ref a :: st) h Q := by
  rcases ho.2 with ⟨hs, hz, k1⟩ | ⟨k, k1, rfl, rfl⟩
  · exact r_getf hdg hf k1 rfl K
  · obtain ⟨r, hc, hk, hw, -, -⟩ := hf
    refine r_pure (fun {p e R s m args below meth c H locs cells slots Q lsR} hx hb hown hts L hK hH w => ?_) K
    obtain ⟨cf, kf, fi, f, cell, h1, h2, h3, h4, h5, -⟩ := (hH.2.2.2.2.1 k k1).2.2
    obtain rfl := Option.some.inj (hc : some (RJ0, TJ0, 4) = some r)
    exact W.getf hx hb hown (hts _ hw) h1 h2 h3 h4 h5 rfl rfl hdg w
theorem r_getSc {index a v : Nat} {t : List Int32} (hdg : decode M.2.1 pc = .ok (.getfield index, 3)) (hf : mFld M.1.cls index 11 1 .byte true) (ho : isStV G h a v t) (K : RUN G l d M (pc + 3) ls (.int 0 :: st) h Q) : RUN G l d M pc ls (.ref a :: st) h Q := by
  rcases ho.2 with ⟨hs, hz, k1⟩ | ⟨k, k1, rfl, rfl⟩
  · exact r_getf hdg hf k1 rfl K
  · obtain ⟨r, hc, hk, hw, -, -⟩ := hf
    refine r_pure (fun {p e R s m args below meth c H locs cells slots Q lsR} hx hb hown hts L hK hH w => ?_) K
    obtain ⟨cf, kf, fi, f, cell, h1, h2, h3, h4, h5, -⟩ := (hH.2.2.2.2.1 k k1).2.1
    obtain rfl := Option.some.inj (hc : some (RJ0, TJ0, 4) = some r)
    exact W.getf hx hb hown (hts _ hw) h1 h2 h3 h4 h5 rfl rfl hdg w
theorem r_ldcS {index k : Nat} (hdg : decode M.2.1 pc = .ok (.ldc index, 2)) (hM : M.1.cls = "ScopeWardenLaw") (hk : k < 16) (hi : kIdx k = index) (K : RUN G l d M (pc + 2) ls (.ref (kkA G k) :: st) h Q) : RUN G l d M pc ls st h Q := by
  refine RUN.step (fun v h' b => ⟨b.1, fun p e R s m args below meth c H locs cells slots kC kS Q lsR C S r1 r2 r3 r4 KK => ?_⟩) K
  have w := b.2 p e R s m args below meth c H locs cells slots kC kS Q lsR C S r1 r2 r3 r4 KK
  obtain ⟨hx, hb, -, hml, hown, hts, -, -, hK, hfr, hlo⟩ := C
  subst hi
  exact va_ldcS hx hb (own := "ScopeWardenLaw") (by rw [← hM]; exact hown) (hK.2.1 k hk) hdg w
/-! calls: the receiver's class told -/
theorem r_callVx {C : String} {stk As : List Value} {index n b : Nat} (hdg : decode M.2.1 pc = .ok (.invokevirtual index, 3)) (hm : mMeth M2 n) (hk : mLk M.1.cls index M2) (hv : Cond.instanceMethod M2.1 ∈ lw_use ∧ Cond.selects C M2.1 M2.1 ∈ lw_use) (hn : As.length = n)
    (hob : ∀ {s : State} {H : Heap}, va_K G.1 vwCl G.2 s → mHOk G s h H → ∃ cellB : Cell, H[b]? = some cellB ∧ cellB.vm.isStatics = false ∧ s.vm.findClass C = some cellB.cls) (hs : stk = As.reverse ++ .ref b :: st) (hW : (st.map fun v => v.category).sum ≤ 8)
    (hcall : RUNM G l d M2 (.ref b :: As) h Q2) (K : ∀ v h', Q2 v h' → RUN G l (d + 1) M (pc + 3) ls (v.toList ++ st) h' Q) : RUN G l (d + 1) M pc ls stk h Q := by
  subst hs
  refine r_callAny hcall (fun {v h2 p e R s m as below meth c H locs cells slots lsR} E C1 hH hL q1 q2 => ?_) K
  obtain ⟨hx, hb, -, hml, hown, hts, -, -, hK, hfr, hlo⟩ := C1
  obtain ⟨m1, m2, m3, m4, m5⟩ := hm
  have hp : PreV s H C b (mPc G (.ref b :: As) h) As := ⟨m_blind, hob hK.1 hH, fun U hU hW => ⟨rfl, by rw [hU]; exact hH.moved hW.alike, hK.warm hW⟩⟩
  have hsig : ∀ sig, parseMethodDescriptor M2.1.desc = some sig → n = sig.parameters.length := fun sig h => by rw [h] at m5; exact (Option.some.inj m5).symm
  have hpay := m_pay hts m1
  rcases hk with hk | ⟨host, hk⟩
  · exact va_runV (C := C) (y := M2.1) (bytes := M2.2.1) (maxL := M2.2.2.1) (ret := M2.2.2.2) (ws := mWs M2) (n := n) ⟨hx, hb, hml, hown, hts⟩ E.2 ⟨⟨rfl, rfl, hfr, by show 8 + (M2.2.2.1 + 11) + (40 * d + 40) ≤ R.locals; omega, hpay, List.mem_cons_self, hts _ m1, hts _ m2, m3, hsig, hts _ hk⟩, hts _ hv.1, hts _ hv.2⟩ hp rfl hn hL.1 rfl (lv_room hW) hdg ⟨q1, q2⟩
  · exact va_runVN (C := C) (y := M2.1) (bytes := M2.2.1) (maxL := M2.2.2.1) (ret := M2.2.2.2) (ws := mWs M2) (n := n) ⟨hx, hb, hml, hown, hts⟩ E.2 ⟨⟨⟨rfl, rfl, hfr, by show 8 + (M2.2.2.1 + 11) + (40 * d + 40) ≤ R.locals; omega, hpay, List.mem_cons_self⟩, hts _ m1, hts _ m2, m3, hsig, hts _ hk⟩, hts _ hv.1, hts _ hv.2⟩ hp rfl hn hL.1 rfl (lv_room hW) hdg ⟨q1, q2⟩
theorem str_recv {a v : Nat} {t : List Int32} (ho : isStV G h a v t) {s : State} {H : Heap} (hK : va_K G.1 vwCl G.2 s) (hH : mHOk G s h H) : ∃ cellB : Cell, H[a]? = some cellB ∧ cellB.vm.isStatics = false ∧ s.vm.findClass "java/lang/String" = some cellB.cls := by
  rcases ho.2 with ⟨hs, hz, k1⟩ | ⟨k, k1, rfl, rfl⟩
  · obtain ⟨q', g0, cell, g1, g2, g3, -⟩ := mAt_obj (r := (RJ0, TJ0, 4)) rfl (hH.2.2.1 a _ k1)
    exact ⟨cell, g1, by rw [g3]; rfl, by rw [g2]; exact (hK.1 11 (RJ0, TJ0, 4) rfl).2.1⟩
  · obtain ⟨cell, h1, h2, h3, -⟩ := (hH.2.2.2.2.1 k k1).1
    exact ⟨cell, h1, h2, h3⟩
theorem sb_recv {a : Nat} {fs : List Value} (ho : hGet h a = some (.inl (12, fs))) {s : State} {H : Heap} (hK : va_K G.1 vwCl G.2 s) (hH : mHOk G s h H) : ∃ cellB : Cell, H[a]? = some cellB ∧ cellB.vm.isStatics = false ∧ s.vm.findClass "java/lang/StringBuilder" = some cellB.cls := by
  obtain ⟨q', g0, cell, g1, g2, g3, -⟩ := mAt_obj (r := (RJ4, TJ4, 4)) rfl (hH.2.2.1 a _ ho)
  exact ⟨cell, g1, by rw [g3]; rfl, by rw [g2]; exact (hK.1 12 (RJ4, TJ4, 4) rfl).2.1⟩
/-- super.m(..) -/
theorem r_callSU {ci : Nat} {fs : List Value} {r : vw_C} {stk As : List Value} {index n b : Nat} (hdg : decode M.2.1 pc = .ok (.invokespecial index, 3)) (hm : mMeth M2 n) (hk : Cond.methodLink M.1.cls index M2.1 ∈ lw_use) (hsm : Cond.sameMethod M2.1.cls M2.1.cls M2.1.name M2.1.desc ∈ lw_use) (hsp : Cond.superclass M.1.cls M2.1.cls ∈ lw_use) (hi : Cond.instanceMethod M2.1 ∈ lw_use) (hno : M2.1.name ≠ "<init>") (hn : As.length = n)
    (hob : hGet h b = some (.inl (ci, fs))) (hc : vwCl[ci]? = some r) (hs : stk = As.reverse ++ .ref b :: st) (hW : (st.map fun v => v.category).sum ≤ 8)
    (hcall : RUNM G l d M2 (.ref b :: As) h Q2) (K : ∀ v h', Q2 v h' → RUN G l (d + 1) M (pc + 3) ls (v.toList ++ st) h' Q) : RUN G l (d + 1) M pc ls stk h Q := by
  subst hs
  refine r_callAny hcall (fun {v h2 p e R s m as below meth c H locs cells slots lsR} E C1 hH hL q1 q2 => ?_) K
  obtain ⟨hx, hb, -, hml, hown, hts, -, -, hK, hfr, hlo⟩ := C1
  obtain ⟨m1, m2, m3, m4, m5⟩ := hm
  have hcls := (hK.1.1 ci r hc).2
  obtain ⟨q', g0, cell, g1, g2, g3, -⟩ := mAt_obj hc (hH.2.2.1 b _ hob)
  have hp : PreV s H r.1 b (mPc G (.ref b :: As) h) As := ⟨m_blind, ⟨cell, g1, by rw [g3]; rfl, by rw [g2]; exact hcls.1⟩, fun U hU hW => ⟨rfl, by rw [hU]; exact hH.moved hW.alike, hK.warm hW⟩⟩
  have hsig : ∀ sig, parseMethodDescriptor M2.1.desc = some sig → n = sig.parameters.length := fun sig h => by rw [h] at m5; exact (Option.some.inj m5).symm
  have hpay := m_pay hts m1
  exact va_runSU (C := r.1) (y := M2.1) (bytes := M2.2.1) (maxL := M2.2.2.1) (ret := M2.2.2.2) (ws := mWs M2) (n := n) hcls ⟨hx, hb, hml, hown, hts⟩ E.2 ⟨⟨rfl, rfl, hfr, by show 8 + (M2.2.2.1 + 11) + (40 * d + 40) ≤ R.locals; omega, hpay, List.mem_cons_self⟩, hts _ hk, hts _ hsm, hts _ hsp, hts _ hi, hts _ m2, hts _ m1, hno, hsig⟩ hp rfl hn hL.1 rfl (lv_room hW) hdg ⟨q1, q2⟩
/-- a method that another one overrides -/
theorem r_callO {C : String} {X : MethodName} {stk As : List Value} {index n b : Nat} {b0 : ByteArray} {m0 : Nat} {r0 : Option FieldType} (hdg : decode M.2.1 pc = .ok (.invokevirtual index, 3)) (hm : mMeth M2 n) (hk : Cond.methodLink M.1.cls index X ∈ lw_use) (hsm : Cond.sameMethod X.cls X.cls X.name X.desc ∈ lw_use) (hx0 : Cond.instanceMethod X ∈ lw_use ∧ Cond.code X b0 m0 r0 ∈ lw_use) (hsel : Cond.selects C X M2.1 ∈ lw_use) (hi : Cond.instanceMethod M2.1 ∈ lw_use)
    (hXn : (X.cls ≠ "java/lang/invoke/MethodHandle" ∧ X.cls ≠ "java/lang/invoke/VarHandle") ∧ (parseMethodDescriptor X.desc).map (fun d => d.parameters.length) = some n) (hn : As.length = n)
    (hob : ∀ {s : State} {H : Heap}, va_K G.1 vwCl G.2 s → mHOk G s h H → ∃ cellB : Cell, H[b]? = some cellB ∧ cellB.vm.isStatics = false ∧ s.vm.findClass C = some cellB.cls) (hs : stk = As.reverse ++ .ref b :: st) (hW : (st.map fun v => v.category).sum ≤ 8)
    (hcall : RUNM G l d M2 (.ref b :: As) h Q2) (K : ∀ v h', Q2 v h' → RUN G l (d + 1) M (pc + 3) ls (v.toList ++ st) h' Q) : RUN G l (d + 1) M pc ls stk h Q := by
  subst hs
  refine r_callAny hcall (fun {v h2 p e R s m as below meth c H locs cells slots lsR} E C1 hH hL q1 q2 => ?_) K
  obtain ⟨hx, hb, -, hml, hown, hts, -, -, hK, hfr, hlo⟩ := C1
  obtain ⟨m1, m2, m3, m4, m5⟩ := hm
  have hp : PreV s H C b (mPc G (.ref b :: As) h) As := ⟨m_blind, hob hK.1 hH, fun U hU hW => ⟨rfl, by rw [hU]; exact hH.moved hW.alike, hK.warm hW⟩⟩
  have hsig : ∀ sig, parseMethodDescriptor X.desc = some sig → n = sig.parameters.length := fun sig h => by have z := hXn.2; rw [h] at z; exact (Option.some.inj z).symm
  have hpay := m_pay hts m1
  exact va_runU (C := C) (x := X) (y := M2.1) (owner := X.cls) (bytes := M2.2.1) (maxL := M2.2.2.1) (ret := M2.2.2.2) (ws := mWs M2) (n := n) ⟨hx, hb, hml, hown, hts⟩ E.2 ⟨⟨rfl, rfl, hfr, by show 8 + (M2.2.2.1 + 11) + (40 * d + 40) ≤ R.locals; omega, hpay, List.mem_cons_self⟩, hts _ m1, hts _ m2, hXn.1, hsig, hts _ hk, hts _ hsm, va_Decl.of (hts _ hx0.1) (hts _ hx0.2), hts _ hsel, hts _ hi⟩ hp rfl hn hL.1 rfl (lv_room hW) hdg ⟨q1, q2⟩
/-- a byte row, copied whole -/
theorem r_cloneB {index a : Nat} {bs : List Int32} (hdg : decode M.2.1 pc = .ok (.invokevirtual index, 3)) (hw : Cond.methodLink M.1.cls index ⟨"[B", "clone", "()Ljava/lang/Object;"⟩ ∈ lw_use) (hws : Cond.sameMethod "[B" "java/lang/Object" "clone" "()Ljava/lang/Object;" ∈ lw_use ∧ Cond.native ⟨"java/lang/Object", "clone", "()Ljava/lang/Object;"⟩ ∈ lw_use ∧ Cond.instanceMethod ⟨"java/lang/Object", "clone", "()Ljava/lang/Object;"⟩ ∈ lw_use ∧ Cond.selects "[B" ⟨"[B", "clone", "()Ljava/lang/Object;"⟩ ⟨"java/lang/Object", "clone", "()Ljava/lang/Object;"⟩ ∈ lw_use)
    (ho : hGet h a = some (byt bs)) (hlo : h.1 ≤ a) (hW : (st.map fun v => v.category).sum ≤ 8)
    (K : RUN G l (d + 1) M (pc + 3) ls (.ref h.2.1 :: st) (hNew h bs.length (byt bs)) Q) : RUN G l (d + 1) M pc ls (.ref a :: st) h Q := by
  refine r_new (fun {p e R s m args below meth c H locs cells slots Q lsR} C0 hH L r1 r2 w => ?_) K
  obtain ⟨hx, hb, -, hml, hown, hts, -, -, hK, hfr, hloc⟩ := C0
  obtain ⟨cA, h1, h2, h3⟩ := m_by hH ho
  have hz := hH.1
  rw [← hz] at w
  have hnm := va_nm_byte (m_tyOf hK.1 h1).2
  obtain ⟨c0, t0', f1, f2, f3⟩ := Cond.castable_spec (va_Nw.use (A := args) rfl hK.2.2)
  cases hnm.symm.trans f1
  have hfit := va_fit (cA := cA) (ty := .byte) (F := fun j => .int (bs.getD j 0)) (n := bs.length) (fun i hi => h2 _ (by rw [List.getD_eq_getElem?_getD, List.getElem?_eq_getElem hi]; exact List.getElem_mem hi))
  have hsz : (vp_cell cA (bs.length, .inl (fun j => bs.getD j 0))).slots.size = bs.length := arrV_size _ _ _
  intro T hT X
  have hcellT : T.heap[a]? = some (vp_cell cA (bs.length, .inl (fun j => bs.getD j 0))) := by rw [hT]; exact h3
  obtain ⟨-, kA, hkA, comp, hkind⟩ := State.isArrayOf_alike X.warmed.alike ((m_tyOf hK.1 h1).1 0 (fun _ => .null))
  obtain ⟨-, kS, hkS, compS, hkindS⟩ := (m_tyOf hK.1 h1).1 0 (fun _ => .null)
  obtain ⟨vm', X', st'⟩ := X.cloneArray hx hown (hts _ hw) (hts _ hws.1) (hts _ hws.2.1) (hts _ hws.2.2.1) (hts _ hws.2.2.2) (a := a) (cell := vp_cell cA (bs.length, .inl (fun j => bs.getD j 0))) hcellT (fun k h => by cases h) (fun h => by cases h) hnm f2 f3
    (fun i v hv => by
      have hk' : T.vm.classes[cA]? = some kA := hkA
      have hv' := hfit i v hv
      have ec : (vp_cell cA (bs.length, .inl (fun j => bs.getD j 0))).cls = cA := rfl
      rw [ec]
      simpa [State.fitsSlot, State.slotType?, hk', hkind] using hv')
    (g := F0 m pc lsR (.ref a :: st)) rfl (by rw [hml]; exact L.1) rfl (by rw [hb]; exact hdg) (by omega) (by show 2 * 0 + _ + 14 ≤ _; omega) r1 (by rw [hsz]; exact r2) (hloader := Vm.clonesLoader_of_array hkS hkindS)
  have hcellE : ({ cls := (vp_cell cA (bs.length, .inl (fun j => bs.getD j 0))).cls, slots := (vp_cell cA (bs.length, .inl (fun j => bs.getD j 0))).slots } : Cell) = vp_cell cA (bs.length, .inl (fun j => bs.getD j 0)) := rfl
  rw [hcellE, hsz] at X'
  obtain ⟨t, b1, b2⟩ := w (H.push (vp_cell cA (bs.length, .inl (fun j => bs.getD j 0)))) (by rw [Array.size_push]) (fun q hq => by rw [Array.getElem?_push, if_neg (Nat.ne_of_lt hq)]) (Or.inr ⟨rfl, cA, bs, h1, ⟨rfl, h2⟩, by rw [Array.getElem?_push_size]⟩) ((T.setVm vm').pushCell (vp_cell cA (bs.length, .inl (fun j => bs.getD j 0)))) (by rw [← hT]; rfl) X'
  refine ⟨t, st' t ?_, b2⟩
  rw [hcellE, hT]
  exact b1
/-- .. cast to what it is -/
theorem r_castB {index a : Nat} {bs : List Int32} (hdg : decode M.2.1 pc = .ok (.checkcast index, 3)) (hw : Cond.classLink M.1.cls index "[B" ∈ lw_use) (ho : hGet h a = some (byt bs)) (K : RUN G l d M (pc + 3) ls (.ref a :: st) h Q) : RUN G l d M pc ls (.ref a :: st) h Q := by
  refine r_pure (fun {p e R s m args below meth c H locs cells slots Q lsR} hx hb hown hts L hK hH w => ?_) K
  obtain ⟨cA, h1, h2, h3⟩ := m_by hH ho
  exact va_castE hx hb hown (hts _ hw) ⟨_, h3, rfl, va_nm_byte (m_tyOf hK h1).2⟩ hdg w
/-! more that moves the stack alone -/
theorem r_ishl {x y : Int32} (hdg : decode M.2.1 pc = .ok (.ishl, 1)) (K : RUN G l d M (pc + 1) ls (.int (x <<< (y &&& 31)) :: st) h Q) : RUN G l d M pc ls (.int y :: .int x :: st) h Q := r_pure (fun hx hb _ _ _ _ _ w => lv_ishl hx hb hdg w) K
theorem r_ishr {x y : Int32} (hdg : decode M.2.1 pc = .ok (.ishr, 1)) (K : RUN G l d M (pc + 1) ls (.int (x >>> (y &&& 31)) :: st) h Q) : RUN G l d M pc ls (.int y :: .int x :: st) h Q := r_pure (fun hx hb _ _ _ _ _ w => lv_ishr hx hb hdg w) K
theorem r_iushr {x y v : Int32} (hdg : decode M.2.1 pc = .ok (.iushr, 1)) (hv : (x.toUInt32 >>> (y.toUInt32 &&& Int32.toUInt32 31)).toInt32 = v) (K : RUN G l d M (pc + 1) ls (.int v :: st) h Q) : RUN G l d M pc ls (.int y :: .int x :: st) h Q := r_pure (fun hx hb _ _ _ _ _ w => lv_iushr hx hb hdg hv w) K
theorem r_i2b {x v : Int32} (hdg : decode M.2.1 pc = .ok (.i2b, 1)) (hv : x.toInt8.toInt32 = v) (K : RUN G l d M (pc + 1) ls (.int v :: st) h Q) : RUN G l d M pc ls (.int x :: st) h Q := r_pure (fun hx hb _ _ _ _ _ w => lv_i2b hx hb hdg hv w) K
theorem r_i2c {x v : Int32} (hdg : decode M.2.1 pc = .ok (.i2c, 1)) (hv : (x.toUInt32 % 65536).toInt32 = v) (K : RUN G l d M (pc + 1) ls (.int v :: st) h Q) : RUN G l d M pc ls (.int x :: st) h Q := r_pure (fun hx hb _ _ _ _ _ w => lv_i2c hx hb hdg hv w) K
theorem r_lmul {x y : Int64} (hdg : decode M.2.1 pc = .ok (.lmul, 1)) (K : RUN G l d M (pc + 1) ls (.long (x * y) :: st) h Q) : RUN G l d M pc ls (.long y :: .long x :: st) h Q := r_pure (fun hx hb _ _ _ _ _ w => lv_lmul hx hb hdg w) K
theorem r_dup_x1 {va vb : Value} (hdg : decode M.2.1 pc = .ok (.dup_x1, 1)) (hva : va.category = 1) (hvb : vb.category = 1) (K : RUN G l d M (pc + 1) ls (va :: vb :: va :: st) h Q) : RUN G l d M pc ls (va :: vb :: st) h Q := r_pure (fun hx hb _ _ _ _ _ w => lv_dup_x1 hx hb hdg hva hvb w) K
end RB

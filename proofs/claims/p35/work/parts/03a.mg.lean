section mg_03a
/-! ===== THE CLEAN MACHINE: an abstract heap, one judgement for every method. EV: from (pc, locals, stack, heap) the method comes to its return with (v, h'); EVM: a call's contract; RUN, RUNM: the same with a predicate on the end ===== -/
/-- words that stay true while the tables warm: the table's words of these kinds are all that a method needs -/
def mWarm (w : Cond) : Bool := goodWord w || (match w with
  | .methodLinkNest _ _ _ _ => true
  | .arrayOver (.object _) => true
  | _ => false)
def lw_use : List Cond := lw_tbl.filter mWarm
theorem lw_use_in {w : Cond} (h : w ∈ lw_tbl) (g : mWarm w = true) : w ∈ lw_use := List.mem_filter.mpr ⟨h, g⟩
theorem lw_use_of {w : Cond} (h : w ∈ lw_use) : w ∈ lw_tbl ∧ mWarm w = true := List.mem_filter.mp h
theorem m_warm {w : Cond} (hw : mWarm w = true) {as : Array Value} {s U : State} (hU : s.WarmedH U.vm) (a' : Array Value) (h : w.before as s = true) : w.before a' U = true := by
  by_cases hg : goodWord w = true
  · exact word_at hU (good_of_word hg) h
  · simp only [mWarm, Bool.or_eq_true, hg, false_or] at hw
    split at hw
    · exact va_Nw.use rfl (va_Nw.warmM hU (va_Nw.of rfl h))
    · exact va_AO.use (va_AO.moved hU.alike (va_AO.of h))
    · simp at hw
abbrev mG : Type := va_G × List (ClassId × FieldType)
/-- an object: of a class (its number in vwCl), an int row, a row of objects (place of its type in the list of row types) -/
abbrev mO : Type := (Nat × List Value) ⊕ ((Nat × (Nat → Int32)) ⊕ (Nat × Nat × (Nat → Option Nat)))
/-- a heap: from where on it is ours, its size, how many slots were made, what stands where -/
abbrev mH : Type := Nat × Nat × Nat × (Nat → Option mO)
/-- a method: name, bytes, locals, what it returns -/
abbrev mM : Type := MethodName × ByteArray × Nat × Option FieldType
def mAt (G : mG) (s : State) (lo a : Nat) (o : mO) (H : Heap) : Prop := match o with
  | .inl (ci, fs) => va_at G.1 vwCl (a, .inr (ci, fs)) H
  | .inr (.inl (n, f)) => (∃ cA : ClassId, G.2[0]? = some (cA, FieldType.int) ∧ H[a]? = some (vp_cell cA (n, .inl f))) ∨ (a < lo ∧ va_X a n f s H)
  | .inr (.inr (t, n, f)) => ∃ (cA : ClassId) (C : String), G.2[t]? = some (cA, FieldType.object C) ∧ H[a]? = some (vp_cell cA (n, .inr (.inr (.inr (.inr f)))))
theorem mAt.kept {G : mG} {s : State} {lo a : Nat} {o : mO} {H H1 : Heap} (h : mAt G s lo a o H) (hq : H1[a]? = H[a]?) : mAt G s lo a o H1 := by
  rcases o with ⟨ci, fs⟩ | ⟨n, f⟩ | ⟨t, n, f⟩
  · exact va_at.kept (q := (a, .inr (ci, fs))) h hq
  · rcases h with ⟨cA, h1, h2⟩ | ⟨h1, h2⟩
    · exact Or.inl ⟨cA, h1, by rw [hq]; exact h2⟩
    · exact Or.inr ⟨h1, h2.kept hq⟩
  · obtain ⟨cA, C, h1, h2⟩ := h
    exact ⟨cA, C, h1, by rw [hq]; exact h2⟩
theorem mAt.lt {G : mG} {s : State} {lo a : Nat} {o : mO} {H : Heap} (h : mAt G s lo a o H) : a < H.size := by
  rcases o with ⟨ci, fs⟩ | ⟨n, f⟩ | ⟨t, n, f⟩
  · exact va_at.lt (q := (a, .inr (ci, fs))) h
  · rcases h with ⟨cA, h1, h2⟩ | ⟨h1, scr, h2, h3⟩
    · exact (Array.getElem?_eq_some_iff.mp h2).1
    · exact (Array.getElem?_eq_some_iff.mp h2).1
  · obtain ⟨cA, C, h1, h2⟩ := h
    exact (Array.getElem?_eq_some_iff.mp h2).1
theorem mAt.moved {G : mG} {s U : State} {lo a : Nat} {o : mO} {H : Heap} (hvm : s.vm.Alike U.vm) (h : mAt G s lo a o H) : mAt G U lo a o H := by
  rcases o with ⟨ci, fs⟩ | ⟨n, f⟩ | ⟨t, n, f⟩
  · exact h
  · rcases h with h | ⟨h1, h2⟩
    · exact Or.inl h
    · exact Or.inr ⟨h1, h2.moved hvm⟩
  · exact h
def mHOk (G : mG) (s : State) (h : mH) (H : Heap) : Prop := H.size = h.2.1 ∧ h.1 ≤ h.2.1 ∧ ∀ (a : Nat) (o : mO), h.2.2.2 a = some o → mAt G s h.1 a o H
theorem mHOk.moved {G : mG} {s U : State} {h : mH} {H : Heap} (hvm : s.vm.Alike U.vm) (k : mHOk G s h H) : mHOk G U h H := ⟨k.1, k.2.1, fun a o ho => (k.2.2 a o ho).moved hvm⟩
def hGet (h : mH) (a : Nat) : Option mO := h.2.2.2 a
def hPut (h : mH) (a : Nat) (o : mO) : mH := (h.1, h.2.1, h.2.2.1, fun q => if q = a then some o else h.2.2.2 q)
def hNew (h : mH) (n : Nat) (o : mO) : mH := (h.1, h.2.1 + 1, h.2.2.1 + n, fun q => if q = h.2.1 then some o else h.2.2.2 q)
theorem mHOk.put {G : mG} {s : State} {h : mH} {H H1 : Heap} {a : Nat} {o : mO} (k : mHOk G s h H) (z : H1.size = H.size) (oq : ∀ q : Nat, q ≠ a → H1[q]? = H[q]?) (ha : mAt G s h.1 a o H1) : mHOk G s (hPut h a o) H1 := by
  refine ⟨z.trans k.1, k.2.1, fun b p hb => ?_⟩
  by_cases hab : b = a
  · subst hab
    have e : p = o := by
      have := hb
      simp [hPut] at this
      exact this.symm
    rw [e]
    exact ha
  · have e : h.2.2.2 b = some p := by
      have := hb
      simp [hPut, hab] at this
      exact this
    exact (k.2.2 b p e).kept (oq b hab)
theorem mHOk.new {G : mG} {s : State} {h : mH} {H H1 : Heap} {n : Nat} {o : mO} (k : mHOk G s h H) (z : H1.size = H.size + 1) (oq : ∀ q : Nat, q < H.size → H1[q]? = H[q]?) (ha : mAt G s h.1 h.2.1 o H1) : mHOk G s (hNew h n o) H1 := by
  refine ⟨by rw [z, k.1]; rfl, Nat.le_succ_of_le k.2.1, fun b p hb => ?_⟩
  by_cases hab : b = h.2.1
  · subst hab
    have e : p = o := by
      have := hb
      simp [hNew] at this
      exact this.symm
    rw [e]
    exact ha
  · have e : h.2.2.2 b = some p := by
      have := hb
      simp [hNew, hab] at this
      exact this
    have hm := k.2.2 b p e
    exact hm.kept (oq b hm.lt)
/-! locals by places -/
def lsL : Nat → List (Option Value) → List (Nat × Value)
  | _, [] => []
  | i, none :: t => lsL (i + 1) t
  | i, some v :: t => (i, v) :: lsL (i + 1) t
theorem lsL_in : ∀ (ls : List (Option Value)) (k : Nat) (q : Nat × Value), q ∈ lsL k ls ↔ ∃ j, ls[j]? = some (some q.2) ∧ q.1 = k + j
  | [], k, q => by simp [lsL]
  | none :: t, k, q => by
    rw [lsL, lsL_in t (k + 1) q]
    constructor
    · rintro ⟨j, h1, h2⟩
      exact ⟨j + 1, by simpa using h1, by omega⟩
    · rintro ⟨j, h1, h2⟩
      cases j with
      | zero => simp at h1
      | succ j => exact ⟨j, by simpa using h1, by omega⟩
  | some v :: t, k, q => by
    rw [lsL, List.mem_cons, lsL_in t (k + 1) q]
    constructor
    · rintro (rfl | ⟨j, h1, h2⟩)
      · exact ⟨0, by simp, by simp⟩
      · exact ⟨j + 1, by simpa using h1, by omega⟩
    · rintro ⟨j, h1, h2⟩
      cases j with
      | zero =>
        left
        obtain ⟨a, b⟩ := q
        simp at h1 h2
        simp [h1, h2]
      | succ j => exact Or.inr ⟨j, by simpa using h1, by omega⟩
theorem lsL_at {lsR : Array Slot} {nL : Nat} {ls : List (Option Value)} (h : lv_has lsR nL (lsL 0 ls)) {i : Nat} {v : Value} (hi : ls[i]? = some (some v)) : lsR[i]? = some (.val v) :=
  h.2.2 (i, v) ((lsL_in ls 0 (i, v)).mpr ⟨i, hi, by simp⟩)
def lsSt (ls : List (Option Value)) (i : Nat) (v : Value) : List (Option Value) := match i with
  | 0 => ls.set 0 (some v)
  | k + 1 => match ls[k]? with
    | some (some w) => if w.category = 2 then (ls.set k none).set (k + 1) (some v) else ls.set (k + 1) (some v)
    | _ => ls.set (k + 1) (some v)
def lsSt2 (ls : List (Option Value)) (i : Nat) (v : Value) : List (Option Value) := (lsSt ls i v).set (i + 1) none
theorem ls_set {ls : List (Option Value)} {i j : Nat} {x : Option Value} {w : Value} (h : (ls.set i x)[j]? = some (some w)) : (j = i ∧ x = some w) ∨ (j ≠ i ∧ ls[j]? = some (some w)) := by
  by_cases e : i = j
  · subst e
    left
    rw [List.getElem?_set] at h
    simp at h
    exact ⟨rfl, h.2⟩
  · rw [List.getElem?_set_ne e] at h
    exact Or.inr ⟨fun q => e q.symm, h⟩
theorem lsSt_get {ls : List (Option Value)} {i j : Nat} {v w : Value} (h : (lsSt ls i v)[j]? = some (some w)) : (j = i ∧ w = v) ∨ (j ≠ i ∧ ls[j]? = some (some w) ∧ ¬ (j + 1 = i ∧ w.category = 2)) := by
  cases i with
  | zero =>
    rcases ls_set h with ⟨h1, h2⟩ | ⟨h1, h2⟩
    · exact Or.inl ⟨h1, (Option.some.inj h2).symm⟩
    · exact Or.inr ⟨h1, h2, fun q => by omega⟩
  | succ k =>
    have hd : (lsSt ls (k + 1) v) = (match ls[k]? with
      | some (some w) => if w.category = 2 then (ls.set k none).set (k + 1) (some v) else ls.set (k + 1) (some v)
      | _ => ls.set (k + 1) (some v)) := rfl
    rw [hd] at h
    split at h
    · rename_i w0 hw0
      split at h
      · rcases ls_set h with ⟨h1, h2⟩ | ⟨h1, h2⟩
        · exact Or.inl ⟨h1, (Option.some.inj h2).symm⟩
        · rcases ls_set h2 with ⟨h3, h4⟩ | ⟨h3, h4⟩
          · cases h4
          · exact Or.inr ⟨h1, h4, fun q => by omega⟩
      · rename_i hc
        rcases ls_set h with ⟨h1, h2⟩ | ⟨h1, h2⟩
        · exact Or.inl ⟨h1, (Option.some.inj h2).symm⟩
        · refine Or.inr ⟨h1, h2, fun q => ?_⟩
          have e : j = k := by omega
          subst e
          rw [hw0] at h2
          simp at h2
          subst h2
          exact hc q.2
    · rename_i hno
      rcases ls_set h with ⟨h1, h2⟩ | ⟨h1, h2⟩
      · exact Or.inl ⟨h1, (Option.some.inj h2).symm⟩
      · refine Or.inr ⟨h1, h2, fun q => ?_⟩
        have e : j = k := by omega
        subst e
        exact hno w h2
theorem lsSt_ok {lsR : Array Slot} {nL : Nat} {ls : List (Option Value)} {i : Nat} {v : Value} (h : lv_has lsR nL ((i, v) :: (lsL 0 ls).filter (fun q => !(q.1 == i) && !(q.1 + 1 == i && q.2.category == 2)))) : lv_has lsR nL (lsL 0 (lsSt ls i v)) := by
  refine ⟨h.1, h.2.1, fun q hq => h.2.2 q ?_⟩
  obtain ⟨j, hj, e⟩ := (lsL_in _ _ _).mp hq
  obtain ⟨a, b⟩ := q
  simp only [Nat.zero_add] at e hj
  subst e
  rcases lsSt_get hj with ⟨h1, h2⟩ | ⟨h1, h2, h3⟩
  · subst h1; subst h2
    exact List.mem_cons_self
  · refine List.mem_cons_of_mem _ (List.mem_filter.mpr ⟨(lsL_in _ _ _).mpr ⟨a, h2, by simp⟩, ?_⟩)
    by_cases h4 : a + 1 = i
    · have h5 : ¬ b.category = 2 := fun q => h3 ⟨h4, q⟩
      simp [h1, h5]
    · simp [h1, h4]
theorem lsSt2_ok {lsR : Array Slot} {nL : Nat} {ls : List (Option Value)} {i : Nat} {v : Value} (h : lv_has lsR nL ((i, v) :: (lsL 0 ls).filter (fun q => !(q.1 == i) && (!(q.1 == i + 1) && !(q.1 + 1 == i && q.2.category == 2))))) : lv_has lsR nL (lsL 0 (lsSt2 ls i v)) := by
  refine ⟨h.1, h.2.1, fun q hq => h.2.2 q ?_⟩
  obtain ⟨j, hj, e⟩ := (lsL_in _ _ _).mp hq
  obtain ⟨a, b⟩ := q
  simp only [Nat.zero_add] at e hj
  subst e
  rcases ls_set hj with ⟨h1, h2⟩ | ⟨h0, hj⟩
  · cases h2
  rcases lsSt_get hj with ⟨h1, h2⟩ | ⟨h1, h2, h3⟩
  · subst h1; subst h2
    exact List.mem_cons_self
  · refine List.mem_cons_of_mem _ (List.mem_filter.mpr ⟨(lsL_in _ _ _).mpr ⟨a, h2, by simp⟩, ?_⟩)
    by_cases h4 : a + 1 = i
    · have h5 : ¬ b.category = 2 := fun q => h3 ⟨h4, q⟩
      simp [h1, h0, h5]
    · simp [h1, h0, h4]
/-! the judgement -/
def mCx (G : mG) (M : mM) (d : Nat) (p : Program) (R : Room) (s : State) (m : MethodId) (args : Array Value) (meth : Method) (c : Code) : Prop :=
  p.tables.exec = Jvm.exec ∧ c.code = M.2.1 ∧ meth.sig.returnType = M.2.2.2 ∧ c.maxLocals = M.2.2.1 ∧ s.vm.findClass M.1.cls = some m.cls ∧ (∀ w ∈ lw_use, w.before args s = true) ∧ meth.locks = false ∧ (M.1.name = "<init>" → meth.name = "<init>") ∧ va_K G.1 vwCl G.2 s ∧ d ≤ R.frames ∧ 40 * d + 40 ≤ R.locals
def mSt (G : mG) (M : mM) (s : State) (h : mH) (ls : List (Option Value)) (H : Heap) (locs : List Loc) (lsR : Array Slot) : Prop :=
  mHOk G s h H ∧ va_S (fun q => h.1 ≤ q) s.heap H locs ∧ h.1 ≤ s.heap.size ∧ lv_has lsR M.2.2.1 (lsL 0 ls)
/-- at a return instruction, with that answer on the stack -/
def mRet (M : mM) (pc : Nat) (v : Option Value) (st : List Value) : Prop :=
  (v = none ∧ st = [] ∧ decode M.2.1 pc = .ok (.return_, 1) ∧ M.2.2.2 = none) ∨
  (∃ (x : Int32) (ty : FieldType), v = some (.int x) ∧ st = [.int x] ∧ decode M.2.1 pc = .ok (.ireturn, 1) ∧ M.2.2.2 = some ty ∧ narrow ty (.int x) = .int x) ∨
  (∃ x : Int64, v = some (.long x) ∧ st = [.long x] ∧ decode M.2.1 pc = .ok (.lreturn, 1) ∧ M.2.2.2 = some .long) ∨
  (∃ (x : Value) (rt : FieldType), v = some x ∧ st = [x] ∧ decode M.2.1 pc = .ok (.areturn, 1) ∧ M.2.2.2 = some rt ∧ ((∃ n, rt = .object n) ∨ ∃ t, rt = .array t) ∧ (x = .null ∨ ∃ a, x = .ref a))
def EV (G : mG) (l : Launch) (d : Nat) (M : mM) (pc : Nat) (ls : List (Option Value)) (st : List Value) (h : mH) (v : Option Value) (h' : mH) : Prop :=
  (h.2.1 ≤ h'.2.1 ∧ h.2.2.1 ≤ h'.2.2.1 ∧ h.1 = h'.1) ∧
  ∀ (p : Program) (e : Env) (R : Room) (s : State) (m : MethodId) (args : Array Value) (below : List Frame) (meth : Method) (c : Code) (H : Heap) (locs : List Loc) (cells slots kC kS : Nat) (Q : State → Prop) (lsR : Array Slot),
    mCx G M d p R s m args meth c → mSt G M s h ls H locs lsR → kC ≤ R.cells → kS ≤ R.slots → cells + (h'.2.1 - h.2.1) = kC → slots + (h'.2.2.1 - h.2.2.1) = kS →
    (∀ (pcE : Nat) (stE : List Value) (lsE : Array Slot) (H' : Heap) (locs' : List Loc), mRet M pcE v stE → mHOk G s h' H' → va_S (fun q => h.1 ≤ q) s.heap H' locs' → W p l e R s m args below meth c H' locs' kC kS Q (F0 m pcE lsE stE)) →
    W p l e R s m args below meth c H locs cells slots Q (F0 m pc lsR st)
def RUN (G : mG) (l : Launch) (d : Nat) (M : mM) (pc : Nat) (ls : List (Option Value)) (st : List Value) (h : mH) (Q : Option Value → mH → Prop) : Prop := ∃ v h', EV G l d M pc ls st h v h' ∧ Q v h'
section MS
variable {G : mG} {l : Launch} {d : Nat} {M : mM} {pc pc2 : Nat} {ls ls2 : List (Option Value)} {st st2 : List Value} {h h2 : mH} {Q : Option Value → mH → Prop}
theorem RUN.step (f : ∀ v h', EV G l d M pc2 ls2 st2 h2 v h' → EV G l d M pc ls st h v h') (k : RUN G l d M pc2 ls2 st2 h2 Q) : RUN G l d M pc ls st h Q := by
  obtain ⟨v, h', a, b⟩ := k
  exact ⟨v, h', f v h' a, b⟩
theorem RUN.mono {Q' : Option Value → mH → Prop} (k : RUN G l d M pc ls st h Q) (f : ∀ v h', Q v h' → Q' v h') : RUN G l d M pc ls st h Q' := by
  obtain ⟨v, h', a, b⟩ := k
  exact ⟨v, h', a, f v h' b⟩
theorem RUN.deeper {d' : Nat} (hd : d ≤ d') (k : RUN G l d M pc ls st h Q) : RUN G l d' M pc ls st h Q := by
  obtain ⟨v, h', ⟨a, b⟩, q⟩ := k
  refine ⟨v, h', ⟨a, fun p e R s m args below meth c H locs cells slots kC kS Q lsR C => b p e R s m args below meth c H locs cells slots kC kS Q lsR ?_⟩, q⟩
  obtain ⟨c1, c2, c3, c4, c5, c6, c7, c8, c9, c10, c11⟩ := C
  exact ⟨c1, c2, c3, c4, c5, c6, c7, c8, c9, by omega, by omega⟩
/-- what moves neither heap nor locals -/
theorem r_pure (step : ∀ {p : Program} {e : Env} {R : Room} {s : State} {m : MethodId} {args : Array Value} {below : List Frame} {meth : Method} {c : Code} {H : Heap} {locs : List Loc} {cells slots : Nat} {Q : State → Prop} {lsR : Array Slot},
      p.tables.exec = Jvm.exec → c.code = M.2.1 → s.vm.findClass M.1.cls = some m.cls → (∀ w ∈ lw_use, w.before args s = true) → lv_has lsR M.2.2.1 (lsL 0 ls) → va_K G.1 vwCl G.2 s → mHOk G s h H →
      W p l e R s m args below meth c H locs cells slots Q (F0 m pc2 lsR st2) → W p l e R s m args below meth c H locs cells slots Q (F0 m pc lsR st))
    (k : RUN G l d M pc2 ls st2 h Q) : RUN G l d M pc ls st h Q := by
  refine RUN.step (fun v h' a => ⟨a.1, fun p e R s m args below meth c H locs cells slots kC kS Q lsR C S r1 r2 r3 r4 K => ?_⟩) k
  exact step C.1 C.2.1 C.2.2.2.2.1 C.2.2.2.2.2.1 S.2.2.2 C.2.2.2.2.2.2.2.2.1 S.1 (a.2 p e R s m args below meth c H locs cells slots kC kS Q lsR C S r1 r2 r3 r4 K)
/-- what moves the locals -/
theorem r_loc (step : ∀ {p : Program} {e : Env} {R : Room} {s : State} {m : MethodId} {args : Array Value} {below : List Frame} {meth : Method} {c : Code} {H : Heap} {locs : List Loc} {cells slots : Nat} {Q : State → Prop} {lsR : Array Slot},
      p.tables.exec = Jvm.exec → c.code = M.2.1 → lv_has lsR M.2.2.1 (lsL 0 ls) →
      (∀ ls' : Array Slot, lv_has ls' M.2.2.1 (lsL 0 ls2) → W p l e R s m args below meth c H locs cells slots Q (F0 m pc2 ls' st2)) → W p l e R s m args below meth c H locs cells slots Q (F0 m pc lsR st))
    (k : RUN G l d M pc2 ls2 st2 h Q) : RUN G l d M pc ls st h Q := by
  refine RUN.step (fun v h' a => ⟨a.1, fun p e R s m args below meth c H locs cells slots kC kS Q lsR C S r1 r2 r3 r4 K => ?_⟩) k
  exact step C.1 C.2.1 S.2.2.2 (fun ls' hl => a.2 p e R s m args below meth c H locs cells slots kC kS Q ls' C ⟨S.1, S.2.1, S.2.2.1, hl⟩ r1 r2 r3 r4 K)
/-- what writes one cell -/
theorem r_put {a : Nat} {o : mO} (hlo : h.1 ≤ a) (step : ∀ {p : Program} {e : Env} {R : Room} {s : State} {m : MethodId} {args : Array Value} {below : List Frame} {meth : Method} {c : Code} {H : Heap} {locs : List Loc} {cells slots : Nat} {Q : State → Prop} {lsR : Array Slot},
      mCx G M d p R s m args meth c → mHOk G s h H → lv_has lsR M.2.2.1 (lsL 0 ls) →
      (∀ (H1 : Heap) (locs1 : List Loc), (∀ x ∈ locs1, x ∈ locs ∨ x.base = a) → H1.size = H.size → (∀ q : Nat, q ≠ a → H1[q]? = H[q]?) → mAt G s h.1 a o H1 → W p l e R s m args below meth c H1 locs1 cells slots Q (F0 m pc2 lsR st2)) → W p l e R s m args below meth c H locs cells slots Q (F0 m pc lsR st))
    (k : RUN G l d M pc2 ls st2 (hPut h a o) Q) : RUN G l d M pc ls st h Q := by
  refine RUN.step (h2 := hPut h a o) (pc2 := pc2) (ls2 := ls) (st2 := st2) (fun v h' b => ⟨b.1, fun p e R s m args below meth c H locs cells slots kC kS Q lsR C S r1 r2 r3 r4 K => ?_⟩) k
  refine step C S.1 S.2.2.2 (fun H1 locs1 hloc z oq ha => b.2 p e R s m args below meth c H1 locs1 cells slots kC kS Q lsR C ⟨S.1.put z oq ha, ⟨by rw [z]; exact S.2.1.1, fun q h1 h2 => ?_, fun x hx => ?_⟩, S.2.2.1, S.2.2.2⟩ r1 r2 r3 r4 K)
  · rw [oq q (fun e => h2 (by rw [e]; exact hlo))]
    exact S.2.1.2.1 q h1 h2
  · rcases hloc x hx with g | g
    · exact S.2.1.2.2 x g
    · show h.1 ≤ x.base
      rw [g]; exact hlo
/-- what makes one cell -/
theorem r_new {n : Nat} {o : mO} (step : ∀ {p : Program} {e : Env} {R : Room} {s : State} {m : MethodId} {args : Array Value} {below : List Frame} {meth : Method} {c : Code} {H : Heap} {locs : List Loc} {cells slots : Nat} {Q : State → Prop} {lsR : Array Slot},
      mCx G M d p R s m args meth c → mHOk G s h H → lv_has lsR M.2.2.1 (lsL 0 ls) → cells + 1 ≤ R.cells → slots + n ≤ R.slots →
      (∀ (H1 : Heap), H1.size = H.size + 1 → (∀ q : Nat, q < H.size → H1[q]? = H[q]?) → mAt G s h.1 h.2.1 o H1 → W p l e R s m args below meth c H1 locs (cells + 1) (slots + n) Q (F0 m pc2 lsR st2)) → W p l e R s m args below meth c H locs cells slots Q (F0 m pc lsR st))
    (k : RUN G l d M pc2 ls st2 (hNew h n o) Q) : RUN G l d M pc ls st h Q := by
  refine RUN.step (h2 := hNew h n o) (pc2 := pc2) (ls2 := ls) (st2 := st2) (fun v h' b => ?_) k
  obtain ⟨⟨b1, b2, b3⟩, b4⟩ := b
  have b1 : h.2.1 + 1 ≤ h'.2.1 := b1
  have b2 : h.2.2.1 + n ≤ h'.2.2.1 := b2
  refine ⟨⟨by omega, by omega, b3⟩, fun p e R s m args below meth c H locs cells slots kC kS Q lsR C S r1 r2 r3 r4 K => ?_⟩
  refine step C S.1 S.2.2.2 (by omega) (by omega) (fun H1 z oq ha => b4 p e R s m args below meth c H1 locs (cells + 1) (slots + n) kC kS Q lsR C ⟨S.1.new z oq ha, ⟨Nat.le_trans S.2.1.1 (by omega), fun q h1 h2 => ?_, S.2.1.2.2⟩, S.2.2.1, S.2.2.2⟩ r1 r2 (by show cells + 1 + (h'.2.1 - (h.2.1 + 1)) = kC; omega) (by show slots + n + (h'.2.2.1 - (h.2.2.1 + n)) = kS; omega) K)
  rw [oq q (Nat.lt_of_lt_of_le h1 S.2.1.1)]
  exact S.2.1.2.1 q h1 h2
/-- the end -/
theorem r_end {v : Option Value} (hr : mRet M pc v st) (hq : Q v h) : RUN G l d M pc ls st h Q := by
  refine ⟨v, h, ⟨⟨Nat.le_refl _, Nat.le_refl _, rfl⟩, fun p e R s m args below meth c H locs cells slots kC kS Q lsR C S r1 r2 r3 r4 K => ?_⟩, hq⟩
  have e1 : cells = kC := by omega
  have e2 : slots = kS := by omega
  subst e1; subst e2
  exact K pc st lsR H locs hr S.1 S.2.1
end MS
end mg_03a
section mg_03b
/-! ===== instructions that move the stack and the locals alone ===== -/
def mTy : List FieldType := [.int, .object "ScopeWarden$Ints", .object "ScopeWarden$Thing", .object "ScopeWarden$Scope", .object "ScopeWarden$Task"]
section RU
variable {G : mG} {l : Launch} {d : Nat} {M : mM} {pc : Nat} {ls : List (Option Value)} {st : List Value} {h : mH} {Q : Option Value → mH → Prop}
def isRefV : Value → Bool
  | .null => true
  | .ref _ => true
  | _ => false
theorem isRefV_of {v : Value} (h : isRefV v = true) : v = .null ∨ ∃ a, v = .ref a := by
  cases v <;> first | exact Or.inl rfl | exact Or.inr ⟨_, rfl⟩ | (simp [isRefV] at h)
theorem isRefV_rf (r : Option Nat) : isRefV (va_rf r) = true := by cases r <;> rfl

theorem r_iconst {n : Int} {v : Int32} (hdg : decode M.2.1 pc = .ok (.iconst n, 1)) (hv : Int32.ofInt n = v) (K : RUN G l d M (pc + 1) ls (.int v :: st) h Q) : RUN G l d M pc ls st h Q := r_pure (fun hx hb hown hts L _ _ w => lv_iconst hx hb hdg hv w) K
theorem r_bipush {n : Int} {v : Int32} (hdg : decode M.2.1 pc = .ok (.bipush n, 2)) (hv : (Int8.ofInt n).toInt32 = v) (K : RUN G l d M (pc + 2) ls (.int v :: st) h Q) : RUN G l d M pc ls st h Q := r_pure (fun hx hb hown hts L _ _ w => lv_bipush hx hb hdg hv w) K
theorem r_sipush {n : Int} {v : Int32} (hdg : decode M.2.1 pc = .ok (.sipush n, 3)) (hv : (Int16.ofInt n).toInt32 = v) (K : RUN G l d M (pc + 3) ls (.int v :: st) h Q) : RUN G l d M pc ls st h Q := r_pure (fun hx hb hown hts L _ _ w => lv_sipush hx hb hdg hv w) K
theorem r_lconst {n : Fin 2} {v : Int64} (hdg : decode M.2.1 pc = .ok (.lconst n, 1)) (hv : Int64.ofNat (n : Nat) = v) (K : RUN G l d M (pc + 1) ls (.long v :: st) h Q) : RUN G l d M pc ls st h Q := r_pure (fun hx hb hown hts L _ _ w => lv_lconst hx hb hdg hv w) K
theorem r_null  (hdg : decode M.2.1 pc = .ok (.aconst_null, 1))  (K : RUN G l d M (pc + 1) ls (.null :: st) h Q) : RUN G l d M pc ls st h Q := r_pure (fun hx hb hown hts L _ _ w => lv_null hx hb hdg w) K
theorem r_ldc {index : Nat} {v : Int32} (hdg : decode M.2.1 pc = .ok (.ldc index, 2)) (hw : Jvm.Cond.constant M.1.cls index v ∈ lw_use) (K : RUN G l d M (pc + 2) ls (.int v :: st) h Q) : RUN G l d M pc ls st h Q := r_pure (fun hx hb hown hts L _ _ w => lv_ldc hx hb hown (hts _ hw) hdg w) K
theorem r_ldc2 {index : Nat} {v : Int64} (hdg : decode M.2.1 pc = .ok (.ldc2_w index, 3)) (hw : Jvm.Cond.constantLong M.1.cls index v ∈ lw_use) (K : RUN G l d M (pc + 3) ls (.long v :: st) h Q) : RUN G l d M pc ls st h Q := r_pure (fun hx hb hown hts L _ _ w => lv_ldc2 hx hb hown (hts _ hw) hdg w) K
theorem r_iload_n {k : Fin 4} {x : Int32} (hdg : decode M.2.1 pc = .ok (.iload_n k, 1)) (hl : ls[(k : Nat)]? = some (some (.int x))) (K : RUN G l d M (pc + 1) ls (.int x :: st) h Q) : RUN G l d M pc ls st h Q := r_pure (fun hx hb hown hts L _ _ w => lv_iload_n hx hb hdg rfl (lsL_at L hl) w) K
theorem r_iload {i : Nat} {x : Int32} (hdg : decode M.2.1 pc = .ok (.iload i, 2)) (hl : ls[i]? = some (some (.int x))) (K : RUN G l d M (pc + 2) ls (.int x :: st) h Q) : RUN G l d M pc ls st h Q := r_pure (fun hx hb hown hts L _ _ w => lv_iload hx hb hdg (lsL_at L hl) w) K
theorem r_lload_n {k : Fin 4} {x : Int64} (hdg : decode M.2.1 pc = .ok (.lload_n k, 1)) (hl : ls[(k : Nat)]? = some (some (.long x))) (K : RUN G l d M (pc + 1) ls (.long x :: st) h Q) : RUN G l d M pc ls st h Q := r_pure (fun hx hb hown hts L _ _ w => lv_lload_n hx hb hdg rfl (lsL_at L hl) w) K
theorem r_aload_n {k : Fin 4} {v : Value} (hdg : decode M.2.1 pc = .ok (.aload_n k, 1)) (hl : ls[(k : Nat)]? = some (some v)) (hv : isRefV v = true) (K : RUN G l d M (pc + 1) ls (v :: st) h Q) : RUN G l d M pc ls st h Q := by
  rcases isRefV_of hv with rfl | ⟨a, rfl⟩
  · exact r_pure (fun hx hb _ _ L _ _ w => lv_aload_nN hx hb hdg rfl (lsL_at L hl) w) K
  · exact r_pure (fun hx hb _ _ L _ _ w => lv_aload_n hx hb hdg rfl (lsL_at L hl) w) K
theorem r_aload {i : Nat} {v : Value} (hdg : decode M.2.1 pc = .ok (.aload i, 2)) (hl : ls[i]? = some (some v)) (hv : isRefV v = true) (K : RUN G l d M (pc + 2) ls (v :: st) h Q) : RUN G l d M pc ls st h Q := by
  rcases isRefV_of hv with rfl | ⟨a, rfl⟩
  · exact r_pure (fun hx hb _ _ L _ _ w => lv_aloadN hx hb hdg (lsL_at L hl) w) K
  · exact r_pure (fun hx hb _ _ L _ _ w => lv_aload hx hb hdg (lsL_at L hl) w) K
theorem r_istore_n {k : Fin 4} {x : Int32} (hdg : decode M.2.1 pc = .ok (.istore_n k, 1)) (hn : (k : Nat) < M.2.2.1) (K : RUN G l d M (pc + 1) (lsSt ls k (.int x)) st h Q) : RUN G l d M pc ls (.int x :: st) h Q :=
  r_loc (fun hx hb L w => lv_istore_n hx hb hdg rfl L hn rfl (fun ls' g => w ls' (lsSt_ok g))) K
theorem r_istore {i : Nat} {x : Int32} (hdg : decode M.2.1 pc = .ok (.istore i, 2)) (hn : i < M.2.2.1) (K : RUN G l d M (pc + 2) (lsSt ls i (.int x)) st h Q) : RUN G l d M pc ls (.int x :: st) h Q :=
  r_loc (fun hx hb L w => lv_istore hx hb hdg L hn rfl (fun ls' g => w ls' (lsSt_ok g))) K
theorem r_lstore_n {k : Fin 4} {x : Int64} (hdg : decode M.2.1 pc = .ok (.lstore_n k, 1)) (hn : (k : Nat) + 1 < M.2.2.1) (K : RUN G l d M (pc + 1) (lsSt2 ls k (.long x)) st h Q) : RUN G l d M pc ls (.long x :: st) h Q :=
  r_loc (fun hx hb L w => lv_lstore_n hx hb hdg rfl L hn rfl (fun ls' g => w ls' (lsSt2_ok g))) K
theorem r_astore_n {k : Fin 4} {v : Value} (hdg : decode M.2.1 pc = .ok (.astore_n k, 1)) (hn : (k : Nat) < M.2.2.1) (hv : isRefV v = true) (K : RUN G l d M (pc + 1) (lsSt ls k v) st h Q) : RUN G l d M pc ls (v :: st) h Q := by
  rcases isRefV_of hv with rfl | ⟨a, rfl⟩
  · exact r_loc (fun hx hb L w => lv_astore_nN hx hb hdg rfl L hn rfl (fun ls' g => w ls' (lsSt_ok g))) K
  · exact r_loc (fun hx hb L w => lv_astore_n hx hb hdg rfl L hn rfl (fun ls' g => w ls' (lsSt_ok g))) K
theorem r_astore {i : Nat} {v : Value} (hdg : decode M.2.1 pc = .ok (.astore i, 2)) (hn : i < M.2.2.1) (hv : isRefV v = true) (K : RUN G l d M (pc + 2) (lsSt ls i v) st h Q) : RUN G l d M pc ls (v :: st) h Q := by
  rcases isRefV_of hv with rfl | ⟨a, rfl⟩
  · exact r_loc (fun hx hb L w => lv_astoreN hx hb hdg L hn rfl (fun ls' g => w ls' (lsSt_ok g))) K
  · exact r_loc (fun hx hb L w => lv_astore hx hb hdg L hn rfl (fun ls' g => w ls' (lsSt_ok g))) K
theorem r_iinc {i : Nat} {n : Int} {x v : Int32} (hdg : decode M.2.1 pc = .ok (.iinc i n, 3)) (hn : i < M.2.2.1) (hl : ls[i]? = some (some (.int x))) (hv : x + Int32.ofInt n = v) (K : RUN G l d M (pc + 3) (lsSt ls i (.int v)) st h Q) : RUN G l d M pc ls st h Q := by
  obtain ⟨k, hk⟩ := List.getElem?_of_mem ((lsL_in ls 0 (i, .int x)).mpr ⟨i, hl, by simp⟩)
  exact r_loc (fun hx hb L w => lv_iinc hx hb hdg L hk hv hn rfl (fun ls' g => w ls' (lsSt_ok g))) K
theorem r_iadd {x y : Int32} (hdg : decode M.2.1 pc = .ok (.iadd, 1))  (K : RUN G l d M (pc + 1) ls (.int (x + y) :: st) h Q) : RUN G l d M pc ls (.int y :: .int x :: st) h Q := r_pure (fun hx hb _ _ _ _ _ w => lv_iadd hx hb hdg  w) K
theorem r_isub {x y : Int32} (hdg : decode M.2.1 pc = .ok (.isub, 1))  (K : RUN G l d M (pc + 1) ls (.int (x - y) :: st) h Q) : RUN G l d M pc ls (.int y :: .int x :: st) h Q := r_pure (fun hx hb _ _ _ _ _ w => lv_isub hx hb hdg  w) K
theorem r_imul {x y : Int32} (hdg : decode M.2.1 pc = .ok (.imul, 1))  (K : RUN G l d M (pc + 1) ls (.int (x * y) :: st) h Q) : RUN G l d M pc ls (.int y :: .int x :: st) h Q := r_pure (fun hx hb _ _ _ _ _ w => lv_imul hx hb hdg  w) K
theorem r_iand {x y : Int32} (hdg : decode M.2.1 pc = .ok (.iand, 1))  (K : RUN G l d M (pc + 1) ls (.int (x &&& y) :: st) h Q) : RUN G l d M pc ls (.int y :: .int x :: st) h Q := r_pure (fun hx hb _ _ _ _ _ w => lv_iand hx hb hdg  w) K
theorem r_idiv {x y : Int32} (hdg : decode M.2.1 pc = .ok (.idiv, 1)) (hne : ¬ y = 0) (K : RUN G l d M (pc + 1) ls (.int (x / y) :: st) h Q) : RUN G l d M pc ls (.int y :: .int x :: st) h Q := r_pure (fun hx hb _ _ _ _ _ w => lv_idiv hx hb hdg hne w) K
theorem r_irem {x y : Int32} (hdg : decode M.2.1 pc = .ok (.irem, 1)) (hne : ¬ y = 0) (K : RUN G l d M (pc + 1) ls (.int (x - x / y * y) :: st) h Q) : RUN G l d M pc ls (.int y :: .int x :: st) h Q := r_pure (fun hx hb _ _ _ _ _ w => lv_irem hx hb hdg hne w) K
theorem r_ladd {x y : Int64} (hdg : decode M.2.1 pc = .ok (.ladd, 1))  (K : RUN G l d M (pc + 1) ls (.long (x + y) :: st) h Q) : RUN G l d M pc ls (.long y :: .long x :: st) h Q := r_pure (fun hx hb _ _ _ _ _ w => lv_ladd hx hb hdg  w) K
theorem r_lcmp {x y : Int64} (hdg : decode M.2.1 pc = .ok (.lcmp, 1)) (K : RUN G l d M (pc + 1) ls (.int (lg_cmp x y) :: st) h Q) : RUN G l d M pc ls (.long y :: .long x :: st) h Q := r_pure (fun hx hb _ _ _ _ _ w => W.lcmp hx hb hdg w) K
theorem r_lshl {x : Int64} {y : Int32} (hdg : decode M.2.1 pc = .ok (.lshl, 1)) (K : RUN G l d M (pc + 1) ls (.long (x <<< (y.toInt64 &&& 63)) :: st) h Q) : RUN G l d M pc ls (.int y :: .long x :: st) h Q := r_pure (fun hx hb _ _ _ _ _ w => lv_lshl hx hb hdg rfl w) K
theorem r_lshr {x : Int64} {y : Int32} (hdg : decode M.2.1 pc = .ok (.lshr, 1)) (K : RUN G l d M (pc + 1) ls (.long (x >>> (y.toInt64 &&& 63)) :: st) h Q) : RUN G l d M pc ls (.int y :: .long x :: st) h Q := r_pure (fun hx hb _ _ _ _ _ w => lv_lshr hx hb hdg rfl w) K
theorem r_ineg {x : Int32} (hdg : decode M.2.1 pc = .ok (.ineg, 1)) (K : RUN G l d M (pc + 1) ls (.int (-x) :: st) h Q) : RUN G l d M pc ls (.int x :: st) h Q := r_pure (fun hx hb _ _ _ _ _ w => lv_ineg hx hb hdg w) K
theorem r_i2l {x : Int32} (hdg : decode M.2.1 pc = .ok (.i2l, 1)) (K : RUN G l d M (pc + 1) ls (.long x.toInt64 :: st) h Q) : RUN G l d M pc ls (.int x :: st) h Q := r_pure (fun hx hb _ _ _ _ _ w => lv_i2l hx hb hdg rfl w) K
theorem r_l2i {x : Int64} (hdg : decode M.2.1 pc = .ok (.l2i, 1)) (K : RUN G l d M (pc + 1) ls (.int x.toInt32 :: st) h Q) : RUN G l d M pc ls (.long x :: st) h Q := r_pure (fun hx hb _ _ _ _ _ w => lv_l2i hx hb hdg rfl w) K
theorem r_dup {v : Value} (hdg : decode M.2.1 pc = .ok (.dup, 1)) (hv : v.category = 1) (K : RUN G l d M (pc + 1) ls (v :: v :: st) h Q) : RUN G l d M pc ls (v :: st) h Q := r_pure (fun hx hb _ _ _ _ _ w => lv_dup hx hb hdg hv w) K
theorem r_pop {v : Value} (hdg : decode M.2.1 pc = .ok (.pop, 1)) (hv : v.category = 1) (K : RUN G l d M (pc + 1) ls st h Q) : RUN G l d M pc ls (v :: st) h Q := r_pure (fun hx hb _ _ _ _ _ w => lv_pop hx hb hdg hv w) K
theorem r_dup2 {v u : Value} (hdg : decode M.2.1 pc = .ok (.dup2, 1)) (hv : v.category = 1) (hu : u.category = 1) (K : RUN G l d M (pc + 1) ls (v :: u :: v :: u :: st) h Q) : RUN G l d M pc ls (v :: u :: st) h Q := r_pure (fun hx hb _ _ _ _ _ w => lv_dup2_11 hx hb hdg hv hu w) K
theorem r_goto {off : Int} {tgt : Nat} (hdg : decode M.2.1 pc = .ok (.goto off, 3)) (ht : (pc : Int) + off = (tgt : Int)) (K : RUN G l d M tgt ls st h Q) : RUN G l d M pc ls st h Q := r_pure (fun hx hb _ _ _ _ _ w => lv_goto hx hb hdg ht w) K
theorem r_if_eq {x : Int32} {off : Int} {tgt : Nat} (hdg : decode M.2.1 pc = .ok (.ifCond .eq off, 3)) (ht : (pc : Int) + off = (tgt : Int)) (kt : x = 0 → RUN G l d M tgt ls st h Q) (kf : ¬ x = 0 → RUN G l d M (pc + 3) ls st h Q) : RUN G l d M pc ls (.int x :: st) h Q := by
  by_cases hc : x = 0
  · exact r_pure (fun hx hb _ _ _ _ _ w => lv_if_eq hx hb hdg ht (fun _ => w) (fun q => absurd hc q)) (kt hc)
  · exact r_pure (fun hx hb _ _ _ _ _ w => lv_if_eq hx hb hdg ht (fun q => absurd q hc) (fun _ => w)) (kf hc)
theorem r_icmp_eq {x y : Int32} {off : Int} {tgt : Nat} (hdg : decode M.2.1 pc = .ok (.if_icmp .eq off, 3)) (ht : (pc : Int) + off = (tgt : Int)) (kt : x = y → RUN G l d M tgt ls st h Q) (kf : ¬ x = y → RUN G l d M (pc + 3) ls st h Q) : RUN G l d M pc ls (.int y :: .int x :: st) h Q := by
  by_cases hc : x = y
  · exact r_pure (fun hx hb _ _ _ _ _ w => lv_icmp_eq hx hb hdg ht (fun _ => w) (fun q => absurd hc q)) (kt hc)
  · exact r_pure (fun hx hb _ _ _ _ _ w => lv_icmp_eq hx hb hdg ht (fun q => absurd q hc) (fun _ => w)) (kf hc)
theorem r_if_lt {x : Int32} {off : Int} {tgt : Nat} (hdg : decode M.2.1 pc = .ok (.ifCond .lt off, 3)) (ht : (pc : Int) + off = (tgt : Int)) (kt : x < 0 → RUN G l d M tgt ls st h Q) (kf : ¬ x < 0 → RUN G l d M (pc + 3) ls st h Q) : RUN G l d M pc ls (.int x :: st) h Q := by
  by_cases hc : x < 0
  · exact r_pure (fun hx hb _ _ _ _ _ w => lv_if_lt hx hb hdg ht (fun _ => w) (fun q => absurd hc q)) (kt hc)
  · exact r_pure (fun hx hb _ _ _ _ _ w => lv_if_lt hx hb hdg ht (fun q => absurd q hc) (fun _ => w)) (kf hc)
theorem r_icmp_lt {x y : Int32} {off : Int} {tgt : Nat} (hdg : decode M.2.1 pc = .ok (.if_icmp .lt off, 3)) (ht : (pc : Int) + off = (tgt : Int)) (kt : x < y → RUN G l d M tgt ls st h Q) (kf : ¬ x < y → RUN G l d M (pc + 3) ls st h Q) : RUN G l d M pc ls (.int y :: .int x :: st) h Q := by
  by_cases hc : x < y
  · exact r_pure (fun hx hb _ _ _ _ _ w => lv_icmp_lt hx hb hdg ht (fun _ => w) (fun q => absurd hc q)) (kt hc)
  · exact r_pure (fun hx hb _ _ _ _ _ w => lv_icmp_lt hx hb hdg ht (fun q => absurd q hc) (fun _ => w)) (kf hc)
theorem r_if_ge {x : Int32} {off : Int} {tgt : Nat} (hdg : decode M.2.1 pc = .ok (.ifCond .ge off, 3)) (ht : (pc : Int) + off = (tgt : Int)) (kt : 0 ≤ x → RUN G l d M tgt ls st h Q) (kf : ¬ 0 ≤ x → RUN G l d M (pc + 3) ls st h Q) : RUN G l d M pc ls (.int x :: st) h Q := by
  by_cases hc : 0 ≤ x
  · exact r_pure (fun hx hb _ _ _ _ _ w => lv_if_ge hx hb hdg ht (fun _ => w) (fun q => absurd hc q)) (kt hc)
  · exact r_pure (fun hx hb _ _ _ _ _ w => lv_if_ge hx hb hdg ht (fun q => absurd q hc) (fun _ => w)) (kf hc)
theorem r_icmp_ge {x y : Int32} {off : Int} {tgt : Nat} (hdg : decode M.2.1 pc = .ok (.if_icmp .ge off, 3)) (ht : (pc : Int) + off = (tgt : Int)) (kt : y ≤ x → RUN G l d M tgt ls st h Q) (kf : ¬ y ≤ x → RUN G l d M (pc + 3) ls st h Q) : RUN G l d M pc ls (.int y :: .int x :: st) h Q := by
  by_cases hc : y ≤ x
  · exact r_pure (fun hx hb _ _ _ _ _ w => lv_icmp_ge hx hb hdg ht (fun _ => w) (fun q => absurd hc q)) (kt hc)
  · exact r_pure (fun hx hb _ _ _ _ _ w => lv_icmp_ge hx hb hdg ht (fun q => absurd q hc) (fun _ => w)) (kf hc)
theorem r_if_gt {x : Int32} {off : Int} {tgt : Nat} (hdg : decode M.2.1 pc = .ok (.ifCond .gt off, 3)) (ht : (pc : Int) + off = (tgt : Int)) (kt : 0 < x → RUN G l d M tgt ls st h Q) (kf : ¬ 0 < x → RUN G l d M (pc + 3) ls st h Q) : RUN G l d M pc ls (.int x :: st) h Q := by
  by_cases hc : 0 < x
  · exact r_pure (fun hx hb _ _ _ _ _ w => lv_if_gt hx hb hdg ht (fun _ => w) (fun q => absurd hc q)) (kt hc)
  · exact r_pure (fun hx hb _ _ _ _ _ w => lv_if_gt hx hb hdg ht (fun q => absurd q hc) (fun _ => w)) (kf hc)
theorem r_icmp_gt {x y : Int32} {off : Int} {tgt : Nat} (hdg : decode M.2.1 pc = .ok (.if_icmp .gt off, 3)) (ht : (pc : Int) + off = (tgt : Int)) (kt : y < x → RUN G l d M tgt ls st h Q) (kf : ¬ y < x → RUN G l d M (pc + 3) ls st h Q) : RUN G l d M pc ls (.int y :: .int x :: st) h Q := by
  by_cases hc : y < x
  · exact r_pure (fun hx hb _ _ _ _ _ w => lv_icmp_gt hx hb hdg ht (fun _ => w) (fun q => absurd hc q)) (kt hc)
  · exact r_pure (fun hx hb _ _ _ _ _ w => lv_icmp_gt hx hb hdg ht (fun q => absurd q hc) (fun _ => w)) (kf hc)
theorem r_if_le {x : Int32} {off : Int} {tgt : Nat} (hdg : decode M.2.1 pc = .ok (.ifCond .le off, 3)) (ht : (pc : Int) + off = (tgt : Int)) (kt : x ≤ 0 → RUN G l d M tgt ls st h Q) (kf : ¬ x ≤ 0 → RUN G l d M (pc + 3) ls st h Q) : RUN G l d M pc ls (.int x :: st) h Q := by
  by_cases hc : x ≤ 0
  · exact r_pure (fun hx hb _ _ _ _ _ w => lv_if_le hx hb hdg ht (fun _ => w) (fun q => absurd hc q)) (kt hc)
  · exact r_pure (fun hx hb _ _ _ _ _ w => lv_if_le hx hb hdg ht (fun q => absurd q hc) (fun _ => w)) (kf hc)
theorem r_icmp_le {x y : Int32} {off : Int} {tgt : Nat} (hdg : decode M.2.1 pc = .ok (.if_icmp .le off, 3)) (ht : (pc : Int) + off = (tgt : Int)) (kt : x ≤ y → RUN G l d M tgt ls st h Q) (kf : ¬ x ≤ y → RUN G l d M (pc + 3) ls st h Q) : RUN G l d M pc ls (.int y :: .int x :: st) h Q := by
  by_cases hc : x ≤ y
  · exact r_pure (fun hx hb _ _ _ _ _ w => lv_icmp_le hx hb hdg ht (fun _ => w) (fun q => absurd hc q)) (kt hc)
  · exact r_pure (fun hx hb _ _ _ _ _ w => lv_icmp_le hx hb hdg ht (fun q => absurd q hc) (fun _ => w)) (kf hc)
theorem r_if_ne {x : Int32} {off : Int} {tgt : Nat} (hdg : decode M.2.1 pc = .ok (.ifCond .ne off, 3)) (ht : (pc : Int) + off = (tgt : Int)) (kt : ¬ x = 0 → RUN G l d M tgt ls st h Q) (kf : x = 0 → RUN G l d M (pc + 3) ls st h Q) : RUN G l d M pc ls (.int x :: st) h Q := by
  by_cases hc : x = 0
  · exact r_pure (fun hx hb _ _ _ _ _ w => lv_if_ne hx hb hdg ht (fun q => absurd hc q) (fun _ => w)) (kf hc)
  · exact r_pure (fun hx hb _ _ _ _ _ w => lv_if_ne hx hb hdg ht (fun _ => w) (fun q => absurd q hc)) (kt hc)
theorem r_icmp_ne {x y : Int32} {off : Int} {tgt : Nat} (hdg : decode M.2.1 pc = .ok (.if_icmp .ne off, 3)) (ht : (pc : Int) + off = (tgt : Int)) (kt : ¬ x = y → RUN G l d M tgt ls st h Q) (kf : x = y → RUN G l d M (pc + 3) ls st h Q) : RUN G l d M pc ls (.int y :: .int x :: st) h Q := by
  by_cases hc : x = y
  · exact r_pure (fun hx hb _ _ _ _ _ w => lv_icmp_ne hx hb hdg ht (fun q => absurd hc q) (fun _ => w)) (kf hc)
  · exact r_pure (fun hx hb _ _ _ _ _ w => lv_icmp_ne hx hb hdg ht (fun _ => w) (fun q => absurd q hc)) (kt hc)
theorem r_ifnull {v : Value} {off : Int} {tgt : Nat} (hdg : decode M.2.1 pc = .ok (.ifnull off, 3)) (ht : (pc : Int) + off = (tgt : Int)) (hv : isRefV v = true) (kt : v = .null → RUN G l d M tgt ls st h Q) (kf : ∀ a, v = .ref a → RUN G l d M (pc + 3) ls st h Q) : RUN G l d M pc ls (v :: st) h Q := by
  rcases isRefV_of hv with rfl | ⟨a, rfl⟩
  · exact r_pure (fun hx hb _ _ _ _ _ w => lv_ifnullN hx hb hdg ht w) (kt rfl)
  · exact r_pure (fun hx hb _ _ _ _ _ w => lv_ifnull hx hb hdg w) (kf a rfl)
theorem r_ifnonnull {v : Value} {off : Int} {tgt : Nat} (hdg : decode M.2.1 pc = .ok (.ifnonnull off, 3)) (ht : (pc : Int) + off = (tgt : Int)) (hv : isRefV v = true) (kt : ∀ a, v = .ref a → RUN G l d M tgt ls st h Q) (kf : v = .null → RUN G l d M (pc + 3) ls st h Q) : RUN G l d M pc ls (v :: st) h Q := by
  rcases isRefV_of hv with rfl | ⟨a, rfl⟩
  · exact r_pure (fun hx hb _ _ _ _ _ w => lv_ifnonnullN hx hb hdg w) (kf rfl)
  · exact r_pure (fun hx hb _ _ _ _ _ w => lv_ifnonnull hx hb hdg ht w) (kt a rfl)
theorem r_tswIn {dflt lo hi : Int} {offs : Array Int} {len : Nat} {x : Int32} {off : Int} {tgt : Nat} (hdg : decode M.2.1 pc = .ok (.tableswitch dflt lo hi offs, len)) (h1 : ¬ x.toInt < lo) (h2 : ¬ hi < x.toInt) (ho : offs[(x.toInt - lo).toNat]? = some off) (ht : (pc : Int) + off = (tgt : Int)) (K : RUN G l d M tgt ls st h Q) : RUN G l d M pc ls (.int x :: st) h Q := r_pure (fun hx hb _ _ _ _ _ w => lv_tableIn hx hb hdg h1 h2 ho ht w) K
theorem r_tswOut {dflt lo hi : Int} {offs : Array Int} {len : Nat} {x : Int32} {tgt : Nat} (hdg : decode M.2.1 pc = .ok (.tableswitch dflt lo hi offs, len)) (h1 : x.toInt < lo ∨ hi < x.toInt) (ht : (pc : Int) + dflt = (tgt : Int)) (K : RUN G l d M tgt ls st h Q) : RUN G l d M pc ls (.int x :: st) h Q := r_pure (fun hx hb _ _ _ _ _ w => lv_tableOut hx hb hdg h1 ht w) K
theorem r_lsw {dflt : Int} {ps : Array (Int × Int)} {len : Nat} {x : Int32} {off : Int} {tgt : Nat} (hdg : decode M.2.1 pc = .ok (.lookupswitch dflt ps, len)) (hp : (ps.toList.zip (ps.toList.drop 1)).all (fun (a, next) => a.1 < next.1) = true) (ho : Op.lookupswitch.offset ps.toList dflt x.toInt = off) (ht : (pc : Int) + off = (tgt : Int)) (K : RUN G l d M tgt ls st h Q) : RUN G l d M pc ls (.int x :: st) h Q := r_pure (fun hx hb _ _ _ _ _ w => lv_lookup hx hb hdg hp ho ht w) K
/-! returns -/
theorem r_return (hdg : decode M.2.1 pc = .ok (.return_, 1)) (hr : M.2.2.2 = none) (hq : Q none h) : RUN G l d M pc ls [] h Q := r_end (Or.inl ⟨rfl, rfl, hdg, hr⟩) hq
theorem r_ireturn {x : Int32} (ty : FieldType) (hdg : decode M.2.1 pc = .ok (.ireturn, 1)) (hr : M.2.2.2 = some ty) (hn : narrow ty (.int x) = .int x) (hq : Q (some (.int x)) h) : RUN G l d M pc ls [.int x] h Q := r_end (Or.inr (Or.inl ⟨x, ty, rfl, rfl, hdg, hr, hn⟩)) hq
theorem r_lreturn {x : Int64} (hdg : decode M.2.1 pc = .ok (.lreturn, 1)) (hr : M.2.2.2 = some .long) (hq : Q (some (.long x)) h) : RUN G l d M pc ls [.long x] h Q := r_end (Or.inr (Or.inr (Or.inl ⟨x, rfl, rfl, hdg, hr⟩))) hq
theorem r_areturn {v : Value} (rt : FieldType) (hdg : decode M.2.1 pc = .ok (.areturn, 1)) (hr : M.2.2.2 = some rt) (hrt : (∃ n, rt = .object n) ∨ ∃ t, rt = .array t) (hv : isRefV v = true) (hq : Q (some v) h) : RUN G l d M pc ls [v] h Q := r_end (Or.inr (Or.inr (Or.inr ⟨v, rt, rfl, rfl, hdg, hr, hrt, isRefV_of hv⟩))) hq
end RU
end mg_03b
section mg_03c
/-! ===== instructions that read and write the heap ===== -/
def mClOk (r : vw_C) : Prop := (∀ w ∈ u_ws r.1 r.2.1 r.2.2, w ∈ lw_use) ∧ (∃ ty : Nat → FieldType, ∀ k, k < r.2.2 → parseFieldDescriptor (r.2.1 k).2.2.1 = some (ty k)) ∧ (∀ a, a < r.2.2 → ∀ b, b < r.2.2 → a ≠ b → (r.2.1 a).2.1 ≠ (r.2.1 b).2.1)
def mClOk0 (r : vw_C) : Prop := (∀ w ∈ u_ws r.1 r.2.1 r.2.2, w ∈ lw_tbl) ∧ ((u_ws r.1 r.2.1 r.2.2).all mWarm = true) ∧ (∃ ty : Nat → FieldType, ∀ k, k < r.2.2 → parseFieldDescriptor (r.2.1 k).2.2.1 = some (ty k)) ∧ (∀ a, a < r.2.2 → ∀ b, b < r.2.2 → a ≠ b → (r.2.1 a).2.1 ≠ (r.2.1 b).2.1)
theorem mCl_ok0 : ∀ r ∈ vwCl, mClOk0 r := List.forall_mem_cons.mpr ⟨⟨inX0, by decide +kernel, ⟨tyX0, tyX0_ok⟩, nmX0⟩, List.forall_mem_cons.mpr ⟨⟨inX1, by decide +kernel, ⟨tyX1, tyX1_ok⟩, nmX1⟩, List.forall_mem_cons.mpr ⟨⟨inX2, by decide +kernel, ⟨tyX2, tyX2_ok⟩, nmX2⟩, List.forall_mem_cons.mpr ⟨⟨inX3, by decide +kernel, ⟨tyX3, tyX3_ok⟩, nmX3⟩, List.forall_mem_cons.mpr ⟨⟨inX4, by decide +kernel, ⟨tyX4, tyX4_ok⟩, nmX4⟩, List.forall_mem_cons.mpr ⟨⟨inX5, by decide +kernel, ⟨tyX5, tyX5_ok⟩, nmX5⟩, List.forall_mem_cons.mpr ⟨⟨inX6, by decide +kernel, ⟨tyX6, tyX6_ok⟩, nmX6⟩, List.forall_mem_cons.mpr ⟨⟨inX7, by decide +kernel, ⟨tyX7, tyX7_ok⟩, nmX7⟩, List.forall_mem_cons.mpr ⟨⟨inX8, by decide +kernel, ⟨tyX8, tyX8_ok⟩, nmX8⟩, List.forall_mem_cons.mpr ⟨⟨inX9, by decide +kernel, ⟨tyX9, tyX9_ok⟩, nmX9⟩, List.forall_mem_cons.mpr ⟨⟨inX10, by decide +kernel, ⟨tyX10, tyX10_ok⟩, nmX10⟩, List.forall_mem_cons.mpr ⟨⟨inX11, by decide +kernel, ⟨tyX11, tyX11_ok⟩, nmX11⟩, fun _ h => absurd h List.not_mem_nil⟩⟩⟩⟩⟩⟩⟩⟩⟩⟩⟩⟩
theorem mCl_ok (r : vw_C) (h : r ∈ vwCl) : mClOk r := by
  obtain ⟨h1, h2, h3, h4⟩ := mCl_ok0 r h
  exact ⟨fun w hw => lw_use_in (h1 w hw) (List.all_eq_true.mp h2 w hw), h3, h4⟩
/-- a field's link, as the tables have it: of the class 'own' at 'index': field k of class number ci, of type ty, final or not -/
def mFld (own : String) (index ci k : Nat) (ty : FieldType) (fin : Bool) : Prop := ∃ r : vw_C, vwCl[ci]? = some r ∧ k < r.2.2 ∧ Cond.fieldLink own index (r.2.1 k).1 (r.2.1 k).2.1 (r.2.1 k).2.2.1 ∈ lw_use ∧ parseFieldDescriptor (r.2.1 k).2.2.1 = some ty ∧ (r.2.1 k).2.2.2 = fin
/-- a class that 'own' makes at 'index', with its fields' first values -/
def mNewC (own : String) (index ci N : Nat) (fs : List Value) : Prop := ∃ r : vw_C, vwCl[ci]? = some r ∧ r.2.2 = N ∧ Cond.classLink own index r.1 ∈ lw_use ∧ Cond.instantiable r.1 r.2.2 ∈ lw_use ∧ Cond.initialized r.1 ∈ lw_use ∧ ∃ ty : Nat → FieldType, (∀ k, k < r.2.2 → parseFieldDescriptor (r.2.1 k).2.2.1 = some (ty k)) ∧ ∀ j, j < r.2.2 → defaultValue (ty j) = vp_V fs j
section RH
variable {G : mG} {l : Launch} {d : Nat} {M : mM} {pc : Nat} {ls : List (Option Value)} {st : List Value} {h : mH} {Q : Option Value → mH → Prop}
theorem r_getf {index ci k : Nat} {ty : FieldType} {fin : Bool} {a : Nat} {fs : List Value} {v : Value} (hdg : decode M.2.1 pc = .ok (.getfield index, 3)) (hf : mFld M.1.cls index ci k ty fin) (ho : hGet h a = some (.inl (ci, fs))) (hv : fs[k]? = some v)
    (K : RUN G l d M (pc + 3) ls (v :: st) h Q) : RUN G l d M pc ls (.ref a :: st) h Q := by
  obtain ⟨⟨C, T, N⟩, hc, hk, hw, -, -⟩ := hf
  obtain ⟨c1, ⟨ty, c2⟩, c3⟩ := mCl_ok _ (List.mem_of_getElem? hc)
  refine r_pure (fun hx hb hown hts L hK hH w => ?_) K
  have hat : mAt G _ h.1 a (.inl (ci, fs)) _ := hH.2.2 a _ ho
  exact va_get (ws := [(a, .inr (ci, fs))]) hx hb hts c1 hown hK (fun k q hq => by
    cases k with
    | zero => cases hq; exact hat
    | succ k => simp at hq) 0 rfl hc k hk (hts _ hw) (fun _ h => h) hv hdg w
theorem m_putAt {s : State} {H1 : Heap} {a ci k : Nat} {fs : List Value} {v : Value} {C : String} {T : u_T} {N : Nat} {iS : Nat → Nat} {cell : Cell} (hc : vwCl[ci]? = some (C, T, N)) (hiS : iS = G.1.2 ci) (q2 : cell.cls = G.1.1 ci) (q3 : cell.vm = .none) (q4 : ∀ k, k < N → cell.slots[iS k]? = some (vp_V fs k))
    (hap : ∀ x y, x < N → y < N → x ≠ y → iS x ≠ iS y) (hk : k < N) (hl : k < fs.length) (e1 : H1[a]? = some (cell.setSlot (iS k) v)) : mAt G s h.1 a (.inl (ci, fs.set k v)) H1 := by
  subst hiS
  exact ⟨_, hc, t_OB.to (V := updV (vp_V fs) k v) ⟨_, e1, q2, q3, t_set q4 hap hk v⟩ (fun j _ => vp_updV_set hl v j)⟩
theorem r_putf {index ci k : Nat} {ty : FieldType} {a : Nat} {fs : List Value} {v : Value} (hdg : decode M.2.1 pc = .ok (.putfield index, 3)) (hf : mFld M.1.cls index ci k ty false) (ho : hGet h a = some (.inl (ci, fs))) (hlo : h.1 ≤ a) (hn : narrow ty v = v) (hfit : fits ty v = true) (hl : k < fs.length)
    (K : RUN G l d M (pc + 3) ls st (hPut h a (.inl (ci, fs.set k v))) Q) : RUN G l d M pc ls (v :: .ref a :: st) h Q := by
  obtain ⟨⟨C, T, N⟩, hc, hk, hw, hd, hfin⟩ := hf
  obtain ⟨hin, ⟨ty0, hty⟩, hnm⟩ := mCl_ok _ (List.mem_of_getElem? hc)
  refine r_put hlo (fun {p e R s m args below meth c H locs cells slots Q lsR} C0 hH L w => ?_) K
  obtain ⟨hx, hb, -, -, hown, hts, -, -, hK, -, -⟩ := C0
  have hat : mAt G s h.1 a (.inl (ci, fs)) H := hH.2.2 a _ ho
  have hap := va_apart (own := M.1.cls) hts hin ty0 hty hnm hK hc
  obtain ⟨r, h1, cell, q1, q2, q3, q4⟩ := hat
  have hr : r = (C, T, N) := Option.some.inj (h1.symm.trans hc)
  subst hr
  obtain ⟨hS, hfc, kC, hkC, hkind⟩ := hK.1 ci _ hc
  obtain ⟨cf, kf, fi, f, hi, hsl⟩ := hS k hk
  have hlay := hts _ (hin _ (u_in_lay hk))
  unfold u_lay at hlay
  rw [if_neg (by rw [hfin]; decide)] at hlay
  have hst := (u_facts hfc hkC (u_lays hts hin hk) hi).1
  have h6 := u_store hfc hkC hkind hlay hi hd hn hfit
  refine W.putK hx hb (f := f) ⟨hown, hts _ hw, ⟨_, _, _, hi⟩, hst⟩ (by rw [q2]; exact h6) q1 q3 (by rw [hsl]; exact k2_hasslot (q4 k hk)) rfl rfl hdg fun H' e1 e2 e3 => ?_
  rw [hsl] at e1 ⊢
  exact w H' _ (fun x hx => by
    rcases List.mem_append.mp hx with g | g
    · exact Or.inl g
    · rw [List.mem_singleton.mp g]; exact Or.inr rfl) e2 e3 (m_putAt hc rfl q2 q3 q4 hap hk hl e1)
theorem r_putF {index ci k : Nat} {ty : FieldType} {a : Nat} {fs : List Value} {v : Value} (hdg : decode M.2.1 pc = .ok (.putfield index, 3)) (hf : mFld M.1.cls index ci k ty true) (hdecl : ∃ r : vw_C, vwCl[ci]? = some r ∧ (r.2.1 k).1 = M.1.cls) (hini : M.1.name = "<init>") (ho : hGet h a = some (.inl (ci, fs))) (hlo : h.1 ≤ a) (hn : narrow ty v = v) (hfit : fits ty v = true) (hl : k < fs.length)
    (K : RUN G l d M (pc + 3) ls st (hPut h a (.inl (ci, fs.set k v))) Q) : RUN G l d M pc ls (v :: .ref a :: st) h Q := by
  obtain ⟨⟨C, T, N⟩, hc, hk, hw, hd, hfin⟩ := hf
  have hdecl : (T k).1 = M.1.cls := by
    obtain ⟨r, g1, g2⟩ := hdecl
    obtain rfl := Option.some.inj (g1.symm.trans hc)
    exact g2
  obtain ⟨hin, ⟨ty0, hty⟩, hnm⟩ := mCl_ok _ (List.mem_of_getElem? hc)
  refine r_put hlo (fun {p e R s m args below meth c H locs cells slots Q lsR} C0 hH L w => ?_) K
  obtain ⟨hx, hb, -, -, hown, hts, -, hname, hK, -, -⟩ := C0
  have hat : mAt G s h.1 a (.inl (ci, fs)) H := hH.2.2 a _ ho
  have hap := va_apart (own := M.1.cls) hts hin ty0 hty hnm hK hc
  obtain ⟨r, h1, cell, q1, q2, q3, q4⟩ := hat
  have hr : r = (C, T, N) := Option.some.inj (h1.symm.trans hc)
  subst hr
  obtain ⟨hS, hfc, kC, hkC, hkind⟩ := hK.1 ci _ hc
  obtain ⟨cf, kf, fi, f, hi, hsl⟩ := hS k hk
  have hlay := hts _ (hin _ (u_in_lay hk))
  unfold u_lay at hlay
  rw [if_pos hfin] at hlay
  have hst := (u_facts hfc hkC (u_lays hts hin hk) hi).1
  have hcf : m.cls = cf := by
    obtain ⟨_, _, c', _, _, _, -, -, hf', -, -, -, hown2, -⟩ := Cond.laysFinal_spec hlay
    have e1 : c' = cf := by have := hi.symm.trans hf'; simp at this; exact this.1.symm
    rw [hdecl] at hown2
    rw [← e1]; exact Option.some.inj (hown.symm.trans hown2)
  have h6 := u_fits hfc hkC hkind (Or.inr hlay) hi hd hn hfit
  refine W.putFinK hx hb hown (hts _ hw) hi hst hcf (hname hini) (by rw [q2]; exact h6) q1 q3 (by rw [hsl]; exact k2_hasslot (q4 k hk)) rfl rfl hdg fun H' e1 e2 e3 => ?_
  rw [hsl] at e1 ⊢
  exact w H' _ (fun x hx => by
    rcases List.mem_append.mp hx with g | g
    · exact Or.inl g
    · rw [List.mem_singleton.mp g]; exact Or.inr rfl) e2 e3 (m_putAt hc rfl q2 q3 q4 hap hk hl e1)
theorem m_tyOf {s : State} {t : Nat} {cA : ClassId} {ty : FieldType} (hK : va_K G.1 vwCl G.2 s) (ht : G.2[t]? = some (cA, ty)) : ArrOfT s cA ty ∧ va_RA s cA ty := hK.2 t _ ht
theorem r_iald {a n : Nat} {f : Nat → Int32} {i : Int32} (hdg : decode M.2.1 pc = .ok (.iaload, 1)) (ho : hGet h a = some (.inr (.inl (n, f)))) (hin : vp_in i n) (K : RUN G l d M (pc + 1) ls (.int (f i.toNatClampNeg) :: st) h Q) : RUN G l d M pc ls (.int i :: .ref a :: st) h Q := by
  refine r_pure (fun {p e R s m args below meth c H locs cells slots Q lsR} hx hb hown hts L hK hH w => ?_) K
  have hlt : i.toNatClampNeg < n := Nat.not_le.mp fun q => hin (Or.inr q)
  rcases hH.2.2 a _ ho with ⟨cA, h1, h2⟩ | ⟨h1, scr, h2, h3, h4, h5, h6⟩
  · exact W.iald (v := .int (f i.toNatClampNeg)) hx hb h2 ((m_tyOf hK h1).1 n (fun j => .int (f j))) (fun q => by cases q) (by show ¬ (i < 0 ∨ (arrV _ _ _).slots.size ≤ _); rw [arrV_size]; exact hin) (by show (arrV _ _ _).slots[_]? = _; rw [arrV_read _ _ hlt]) rfl rfl hdg w
  · exact W.iald (v := .int (f i.toNatClampNeg)) hx hb h2 h3 h4 (by rw [h5]; exact hin) (h6 _ hlt) rfl rfl hdg w
theorem r_alenI {a n : Nat} {f : Nat → Int32} (hdg : decode M.2.1 pc = .ok (.arraylength, 1)) (ho : hGet h a = some (.inr (.inl (n, f)))) (K : RUN G l d M (pc + 1) ls (.int (Int32.ofNat n) :: st) h Q) : RUN G l d M pc ls (.ref a :: st) h Q := by
  refine r_pure (fun {p e R s m args below meth c H locs cells slots Q lsR} hx hb hown hts L hK hH w => ?_) K
  rcases hH.2.2 a _ ho with ⟨cA, h1, h2⟩ | ⟨h1, scr, h2, h3, h4, h5, h6⟩
  · exact W.alen (n := Int32.ofNat n) hx hb h2 ((m_tyOf hK h1).1 n (fun j => .int (f j))) (by rw [vp_cell_i, arrV_size] <;> rfl) rfl rfl hdg w
  · exact W.alen (n := Int32.ofNat n) hx hb h2 h3 (by rw [h5] <;> rfl) rfl rfl hdg w
theorem r_alenR {a t n : Nat} {f : Nat → Option Nat} (hdg : decode M.2.1 pc = .ok (.arraylength, 1)) (ho : hGet h a = some (.inr (.inr (t, n, f)))) (K : RUN G l d M (pc + 1) ls (.int (Int32.ofNat n) :: st) h Q) : RUN G l d M pc ls (.ref a :: st) h Q := by
  refine r_pure (fun {p e R s m args below meth c H locs cells slots Q lsR} hx hb hown hts L hK hH w => ?_) K
  obtain ⟨cA, C, h1, h2⟩ := hH.2.2 a _ ho
  exact W.alen (n := Int32.ofNat n) hx hb h2 ((m_tyOf hK h1).1 n (fun j => va_rf (f j))) (by rw [vp_cell_q, arrV_size] <;> rfl) rfl rfl hdg w
theorem r_aald {a t n : Nat} {f : Nat → Option Nat} {i : Int32} (hdg : decode M.2.1 pc = .ok (.aaload, 1)) (ho : hGet h a = some (.inr (.inr (t, n, f)))) (hin : vp_in i n) (K : RUN G l d M (pc + 1) ls (va_rf (f i.toNatClampNeg) :: st) h Q) : RUN G l d M pc ls (.int i :: .ref a :: st) h Q := by
  refine r_pure (fun {p e R s m args below meth c H locs cells slots Q lsR} hx hb hown hts L hK hH w => ?_) K
  have hlt : i.toNatClampNeg < n := Nat.not_le.mp fun q => hin (Or.inr q)
  obtain ⟨cA, C, h1, h2⟩ := hH.2.2 a _ ho
  exact W.aald (v := va_rf (f i.toNatClampNeg)) (ty := .object C) hx hb h2 ((m_tyOf hK h1).1 n (fun j => va_rf (f j))) rfl (fun q => by cases q) (by show ¬ (i < 0 ∨ (arrV _ _ _).slots.size ≤ _); rw [arrV_size]; exact hin) (by show (arrV _ _ _).slots[_]? = _; rw [arrV_read _ _ hlt]) rfl rfl hdg w
theorem r_iast {a n : Nat} {f : Nat → Int32} {i x : Int32} (hdg : decode M.2.1 pc = .ok (.iastore, 1)) (ho : hGet h a = some (.inr (.inl (n, f)))) (hlo : h.1 ≤ a) (hin : vp_in i n) (K : RUN G l d M (pc + 1) ls st (hPut h a (.inr (.inl (n, upd f i.toNatClampNeg x)))) Q) : RUN G l d M pc ls (.int x :: .int i :: .ref a :: st) h Q := by
  refine r_put hlo (fun {p e R s m args below meth c H locs cells slots Q lsR} C0 hH L w => ?_) K
  obtain ⟨hx, hb, -, -, hown, hts, -, -, hK, -, -⟩ := C0
  rcases hH.2.2 a _ ho with ⟨cA, h1, h2⟩ | ⟨h1, -⟩
  · refine W.iast hx hb h2 ((m_tyOf hK h1).1 n (fun j => .int (f j))) (fun q => by cases q) (by show ¬ (i < 0 ∨ (arrV _ _ _).slots.size ≤ _); rw [arrV_size]; exact hin) rfl rfl hdg fun H1 e z oq => ?_
    refine w H1 _ (fun x hx => by
      rcases List.mem_append.mp hx with g | g
      · exact Or.inl g
      · rw [List.mem_singleton.mp g]; exact Or.inr rfl) z oq (Or.inl ⟨cA, h1, ?_⟩)
    rw [e, vp_cell_i, vp_cell_i, arrV_store]
    congr 2
    funext q
    by_cases hq : q = i.toNatClampNeg
    · subst hq
      simp [updV, upd]
    · simp [updV, upd, hq]
  · omega
theorem r_aast {a t n ci : Nat} {f : Nat → Option Nat} {i : Int32} {r : vw_C} {v : Nat} {vs : List Value} (hdg : decode M.2.1 pc = .ok (.aastore, 1)) (ho : hGet h a = some (.inr (.inr (t, n, f)))) (hov : hGet h v = some (.inl (ci, vs))) (hc : vwCl[ci]? = some r) (hG : G.2.map Prod.snd = mTy) (hty : mTy[t]? = some (.object r.1)) (hlo : h.1 ≤ a) (hin : vp_in i n)
    (K : RUN G l d M (pc + 1) ls st (hPut h a (.inr (.inr (t, n, va_up f i.toNatClampNeg (some v))))) Q) : RUN G l d M pc ls (.ref v :: .int i :: .ref a :: st) h Q := by
  refine r_put hlo (fun {p e R s m args below meth c H locs cells slots Q lsR} C0 hH L w => ?_) K
  obtain ⟨hx, hb, -, -, hown, hts, -, -, hK, -, -⟩ := C0
  obtain ⟨cA, C, h1, h2⟩ := hH.2.2 a _ ho
  have hCr : C = r.1 := by
    rw [← hG, List.getElem?_map, h1] at hty
    simpa using hty
  subst hCr
  have hlt : i.toNatClampNeg < n := Nat.not_le.mp fun q => hin (Or.inr q)
  have h0 : ¬ i < 0 := fun q => hin (Or.inl q)
  obtain ⟨r', hr', cellV, g1, g2, g3, -⟩ := hH.2.2 v _ hov
  have hcls := (hK.1 ci r hc).2
  obtain ⟨kA, comp, k1, k2, k3, -⟩ := (m_tyOf hK h1).2
  have hcomp : comp = G.1.1 ci := Option.some.inj (k3.symm.trans hcls.1)
  subst hcomp
  obtain ⟨kC, hkC, -⟩ := hcls.2
  refine W.aast hx hb h2 (fun q h => by cases h) (fun h => by cases h) k1 k2 rfl hkC ⟨h0, by show _ < (arrV _ _ _).slots.size; rw [arrV_size]; exact hlt⟩ g1 (fun q h => by rw [g3] at h; cases h) (by rw [g2]; exact hkC) (by rw [g2]; exact va_assign hcls) rfl rfl hdg fun H1 e z oq => ?_
  refine w H1 _ (fun x hx => by
      rcases List.mem_append.mp hx with g | g
      · exact Or.inl g
      · rw [List.mem_singleton.mp g]; exact Or.inr rfl) z oq ⟨cA, r.1, h1, ?_⟩
  rw [e]
  rw [vp_cell_q, vp_cell_q, arrV_store]
  congr 2
  funext q
  by_cases hq : q = i.toNatClampNeg
  · subst hq
    simp [updV, va_up, va_rf]
  · simp [updV, va_up, hq]
theorem m_ty0 {t : Nat} {ty : FieldType} (hG : G.2.map Prod.snd = mTy) (hty : mTy[t]? = some ty) : ∃ cA, G.2[t]? = some (cA, ty) := by
  rw [← hG, List.getElem?_map] at hty
  cases hg : G.2[t]? with
  | none => rw [hg] at hty; simp at hty
  | some q =>
    rw [hg] at hty
    obtain ⟨a, b⟩ := q
    simp at hty
    exact ⟨a, by rw [hty]⟩
theorem r_newaI {n : Int32} {N : Nat} (hdg : decode M.2.1 pc = .ok (.newarray .int, 2)) (hG : G.2.map Prod.snd = mTy) (hw : Cond.arrayClass .int ∈ lw_use) (hn : ¬ n < 0) (hN : n.toNatClampNeg = N) (hby : N * 4 ≤ 536870912)
    (K : RUN G l d M (pc + 2) ls (.ref h.2.1 :: st) (hNew h N (.inr (.inl (N, fun _ => 0)))) Q) : RUN G l d M pc ls (.int n :: st) h Q := by
  obtain ⟨cA0, h0⟩ := m_ty0 (G := G) (t := 0) hG rfl
  refine r_new (fun {p e R s m args below meth c H locs cells slots Q lsR} C0 hH L r1 r2 w => ?_) K
  obtain ⟨hx, hb, -, -, hown, hts, -, -, hK, -, -⟩ := C0
  refine va_newaK hx hb (atype := .int) (hts _ hw) rfl hdg rfl hn hN hby r1 r2 hH.1 fun H1 cA e1 z1 o1 hAr hNm => ?_
  refine w H1 (by rw [z1, hH.1]) (fun q hq => o1 q (by rw [← hH.1]; exact hq)) (Or.inl ⟨cA0, h0, ?_⟩)
  have hcc : cA = cA0 := Option.some.inj (hNm.symm.trans (m_tyOf hK h0).2)
  subst hcc
  exact e1
theorem r_newaR {n : Int32} {N index t : Nat} {C : String} (hdg : decode M.2.1 pc = .ok (.anewarray index, 3)) (hG : G.2.map Prod.snd = mTy) (hty : mTy[t]? = some (.object C)) (hw1 : Cond.classLink M.1.cls index C ∈ lw_use) (hw2 : Cond.arrayOver (.object C) ∈ lw_use) (hn : ¬ n < 0) (hN : n.toNatClampNeg = N) (hby : N * 4 ≤ 536870912)
    (K : RUN G l d M (pc + 3) ls (.ref h.2.1 :: st) (hNew h N (.inr (.inr (t, N, fun _ => none)))) Q) : RUN G l d M pc ls (.int n :: st) h Q := by
  obtain ⟨cA0, h0⟩ := m_ty0 (G := G) (t := t) hG hty
  subst hN
  refine r_new (fun {p e R s m args below meth c H locs cells slots Q lsR} C0 hH L r1 r2 w => ?_) K
  obtain ⟨hx, hb, -, -, hown, hts, -, -, hK, -, -⟩ := C0
  have hz := hH.1
  rw [← hz] at w
  refine W.anew hx hb hown (hts _ hw1) (hts _ hw2) rfl hdg rfl hn hby r1 r2 fun cA kA comp f1 f2 f3 f4 => ?_
  generalize hH1 : H.push ({ cls := cA, slots := Array.replicate n.toNatClampNeg .null, vm := .none } : Cell) = H1
  have z1 : H1.size = H.size + 1 := by rw [← hH1, Array.size_push]
  have e1 : H1[H.size]? = some (arrV cA n.toNatClampNeg (fun _ => .null)) := by rw [← hH1, Array.getElem?_push_size, ← arrV_new]
  have o1 : ∀ q : Nat, q < H.size → H1[q]? = H[q]? := fun q hq => by rw [← hH1, Array.getElem?_push, if_neg (Nat.ne_of_lt hq)]
  refine w H1 z1 o1 ⟨cA0, C, h0, ?_⟩
  obtain ⟨kA', comp', -, -, -, k4⟩ := (m_tyOf hK h0).2
  have hcc : cA = cA0 := Option.some.inj (f1.symm.trans k4)
  subst hcc
  rw [vp_cell_q]
  exact e1
theorem r_newC {index ci N : Nat} {fs : List Value} (hdg : decode M.2.1 pc = .ok (.new index, 3)) (hc : mNewC M.1.cls index ci N fs)
    (K : RUN G l d M (pc + 3) ls (.ref h.2.1 :: st) (hNew h N (.inl (ci, fs))) Q) : RUN G l d M pc ls st h Q := by
  obtain ⟨⟨C, T, N'⟩, hc, rfl, hw1, hw2, hw3, ty, hty, hfs⟩ := hc
  obtain ⟨hin, -, -⟩ := mCl_ok _ (List.mem_of_getElem? hc)
  refine r_new (fun {p e R s m args below meth c H locs cells slots Q lsR} C0 hH L r1 r2 w => ?_) K
  obtain ⟨hx, hb, -, -, hown, hts, -, -, hK, -, -⟩ := C0
  have hKn := hK.1 ci _ hc
  refine W.newcK hx hb hown (hts _ hw1) (hts _ hw2) (hts _ hw3) rfl hdg r1 r2 hKn.2.1 hH.1 fun H1 kC hkC e1 z1 o1 => ?_
  exact w H1 (by rw [z1, hH.1]) (fun q hq => o1 q (by rw [← hH.1]; exact hq)) ⟨_, hc, (u_born ty hts hin hKn hkC e1 hty).to hfs⟩
end RH
end mg_03c
section mg_03d
/-! ===== calls ===== -/
def mWs (M : mM) : List Cond := Cond.code M.1 M.2.1 M.2.2.1 M.2.2.2 :: lw_use
def mRm (d k n : Nat) : Room := { frames := d, cells := k, slots := n, locals := 40 * d + 40 }
def mPc (G : mG) (args : List Value) (h : mH) : Array Value → State → Prop := fun a U => a = args.toArray ∧ mHOk G U h U.heap ∧ va_K G.1 vwCl G.2 U
def mQc (G : mG) (v : Option Value) (h' : mH) : Array Value → State → Outcome → State → Prop := fun _ st o t => o = .returned v ∧ mHOk G t h' t.heap ∧ va_K G.1 vwCl G.2 t ∧ va_F (fun q => h'.1 ≤ q) st t
def EVM (G : mG) (l : Launch) (d : Nat) (M : mM) (args : List Value) (h : mH) (v : Option Value) (h' : mH) : Prop :=
  (h.2.1 ≤ h'.2.1 ∧ h.2.2.1 ≤ h'.2.2.1 ∧ h.1 = h'.1) ∧
  Met l M.1 (mWs M) (mRm d (h'.2.1 - h.2.1) (h'.2.2.1 - h.2.2.1)) (mPc G args h) (mQc G v h') (h'.2.1 - h.2.1) (h'.2.2.1 - h.2.2.1) (fun q => h.1 ≤ q)
def mEnt : List Value → List (Option Value)
  | [] => []
  | v :: vs => if v.category = 2 then some v :: none :: mEnt vs else some v :: mEnt vs
def mLs (args : List Value) (n : Nat) : List (Option Value) := mEnt args ++ List.replicate (n - (mEnt args).length) none
def RUNM (G : mG) (l : Launch) (d : Nat) (M : mM) (args : List Value) (h : mH) (Q : Option Value → mH → Prop) : Prop := plainName M.1.cls = true ∧ (lg_sl args).length ≤ M.2.2.1 ∧ RUN G l d M 0 (mLs args M.2.2.1) [] h Q
theorem RUNM.mono {G : mG} {l : Launch} {d : Nat} {M : mM} {args : List Value} {h : mH} {Q Q' : Option Value → mH → Prop} (k : RUNM G l d M args h Q) (f : ∀ v h', Q v h' → Q' v h') : RUNM G l d M args h Q' := ⟨k.1, k.2.1, k.2.2.mono f⟩
theorem RUNM.deeper {G : mG} {l : Launch} {d d' : Nat} {M : mM} {args : List Value} {h : mH} {Q : Option Value → mH → Prop} (hd : d ≤ d') (k : RUNM G l d M args h Q) : RUNM G l d' M args h Q := ⟨k.1, k.2.1, k.2.2.deeper hd⟩
theorem RUNM.of {G : mG} {l : Launch} {d : Nat} {M : mM} {args : List Value} {h : mH} {Q : Option Value → mH → Prop} (hp : plainName M.1.cls = true) (hl : (lg_sl args).length ≤ M.2.2.1) (k : RUN G l d M 0 (mLs args M.2.2.1) [] h Q) : RUNM G l d M args h Q := ⟨hp, hl, k⟩
/-- what the tables say of a method -/
def mMeth (M : mM) (n : Nat) : Prop := Cond.code M.1 M.2.1 M.2.2.1 M.2.2.2 ∈ lw_use ∧ Cond.initialized M.1.cls ∈ lw_use ∧ (M.1.cls ≠ "java/lang/invoke/MethodHandle" ∧ M.1.cls ≠ "java/lang/invoke/VarHandle") ∧ M.2.2.1 ≤ 21 ∧ (parseMethodDescriptor M.1.desc).map (fun d => d.parameters.length) = some n
/-- .. and of a link to it -/
def mLk (own : String) (index : Nat) (M : mM) : Prop := Cond.methodLink own index M.1 ∈ lw_use ∨ ∃ host, Cond.methodLinkNest own index M.1 host ∈ lw_use
def mVirt (M : mM) : Prop := Cond.instanceMethod M.1 ∈ lw_use ∧ Cond.selects M.1.cls M.1 M.1 ∈ lw_use
theorem lsL_rep (k n : Nat) : lsL k (List.replicate n none) = [] := by
  induction n generalizing k with
  | zero => rfl
  | succ n ih => rw [List.replicate_succ]; exact ih (k + 1)
theorem mLs_args (n : Nat) : ∀ (vs : List Value) (k : Nat), lsL k (mEnt vs ++ List.replicate n none) = lv_args k vs
  | [], k => lsL_rep k n
  | v :: vs, k => by
    by_cases hc : v.category = 2
    · simp only [mEnt, hc, if_true, lv_args, List.cons_append, lsL]
      rw [mLs_args n vs (k + 2)]
    · simp only [mEnt, hc, if_false, lv_args, List.cons_append, lsL]
      rw [mLs_args n vs (k + 1)]
section CA
variable {G : mG} {l : Launch} {d : Nat} {M M2 : mM} {pc : Nat} {ls : List (Option Value)} {st : List Value} {h : mH} {Q Q2 : Option Value → mH → Prop} {args : List Value}
theorem RUNM.ev (kk : RUNM G l d M args h Q) : ∃ v h', EVM G l d M args h v h' ∧ Q v h' := by
  obtain ⟨hp, hl, k⟩ := kk
  obtain ⟨v, h', ⟨⟨b1, b2, b3⟩, b4⟩, q⟩ := k
  refine ⟨v, h', ⟨⟨b1, b2, b3⟩, ?_⟩, q⟩
  refine Met.ofW (cc := M.2.1) (maxL := M.2.2.1) (ret := M.2.2.2) hp rfl ?_
  intro p e s m as below meth c s₁ B hml hv
  obtain ⟨rfl, hH, hK⟩ := hv
  have hts := atoms_spec (ws := mWs M) B.pre
  have hlocks := B.notSynchronized
  have L := lv_entry args hl
  rw [← mLs_args (M.2.2.1 - (mEnt args).length) args 0] at L
  rw [lg_entry_eq]
  refine b4 p e _ s m args.toArray below meth c s.heap [] 0 0 (h'.2.1 - h.2.1) (h'.2.2.1 - h.2.2.1) _ _ ⟨B.exec, B.bytes, B.returns, hml, findClass_of_methodNamed B.named, fun w hw => hts w (List.mem_cons_of_mem _ hw), hlocks, fun g => (name_of_methodNamed B.named B.method).1.trans g, hK, Nat.le_refl _, Nat.le_refl _⟩ ⟨hH, va_S.rf, by rw [hH.1]; exact hH.2.1, L⟩ (Nat.le_refl _) (Nat.le_refl _) (Nat.zero_add _) (Nat.zero_add _) ?_
  intro pcE stE lsE H' locs' hr hH' hS'
  have F : ∀ t : State, t.heap = H' → s.WarmedH t.vm → mQc G v h' args.toArray s (.returned v) t := fun t ht hW => ⟨rfl, by rw [ht]; exact hH'.moved hW.alike, hK.moved hW.alike, by rw [← b3]; exact hS'.F ht⟩
  rcases hr with ⟨rfl, rfl, hd, hret⟩ | ⟨x, ty, rfl, rfl, hd, hret, hn⟩ | ⟨x, rfl, rfl, hd, hret⟩ | ⟨x, rt, rfl, rfl, hd, hret, hrt, hx⟩
  · exact W.vret B.exec B.bytes (B.returns.trans hret) F hS'.2.2 hd
  · exact W.zret B.exec B.bytes (B.returns.trans hret) hn F hS'.2.2 hd
  · exact W.lret B.exec B.bytes (B.returns.trans hret) F hS'.2.2 hd
  · exact W.aret B.exec B.bytes (B.returns.trans hret) hrt hx F hS'.2.2 hd
theorem m_blind : FrameBlind (mPc G args h) := fun a U g mk q => by
  obtain ⟨q0, q1, q2⟩ := q
  exact ⟨q0, q1.moved (s := U) (U := U.calling g mk a) (Vm.Alike.refl U.vm), va_K.moved (u := U) (U := U.calling g mk a) (Vm.Alike.refl U.vm) q2⟩
theorem m_pay {s : State} {as : Array Value} (hts : ∀ w ∈ lw_use, w.before as s = true) (hm : Cond.code M.1 M.2.1 M.2.2.1 M.2.2.2 ∈ lw_use) : ∀ w ∈ mWs M, ∀ (a' : Array Value) (U : State), s.WarmedH U.vm → w.before a' U = true := by
  intro w hw a' U hU
  have hin : w ∈ lw_use := by
    rcases List.mem_cons.mp hw with rfl | g
    · exact hm
    · exact g
  exact m_warm (lw_use_of hin).2 hU a' (hts w hin)
/-- what a call leaves behind, for whichever kind of call -/
theorem r_callAny {stk : List Value} (hcall : RUNM G l d M2 args h Q2)
    (run : ∀ {v h2} {p : Program} {e : Env} {R : Room} {s : State} {m : MethodId} {as : Array Value} {below : List Frame} {meth : Method} {c : Code} {H : Heap} {locs : List Loc} {cells slots : Nat} {lsR : Array Slot}, EVM G l d M2 args h v h2 → mCx G M (d + 1) p R s m as meth c → mHOk G s h H → lv_has lsR M.2.2.1 (lsL 0 ls) →
      cells + (h2.2.1 - h.2.1) ≤ R.cells → slots + (h2.2.2.1 - h.2.2.1) ≤ R.slots → va_Run p l e R s m as below meth c H locs cells slots (h2.2.1 - h.2.1) (h2.2.2.1 - h.2.2.1) (F0 m pc lsR stk) st (mQc G v h2 args.toArray) (fun q => h.1 ≤ q))
    (K : ∀ v h', Q2 v h' → RUN G l (d + 1) M (pc + 3) ls (v.toList ++ st) h' Q) : RUN G l (d + 1) M pc ls stk h Q := by
  obtain ⟨v2, h2, E, q2⟩ := hcall.ev
  obtain ⟨v, h', ⟨⟨b1, b2, b3⟩, b4⟩, q⟩ := K v2 h2 q2
  obtain ⟨⟨a1, a2, a3⟩, -⟩ := id E
  refine ⟨v, h', ⟨⟨by omega, by omega, a3.trans b3⟩, fun p e R s m as below meth c H locs cells slots kC kS Q lsR C S r1 r2 r3 r4 KK => ?_⟩, q⟩
  have hr := run (locs := locs) (e := e) (below := below) E C S.1 S.2.2.2 (cells := cells) (slots := slots) (by omega) (by omega)
  obtain ⟨hH, hS, hlo, hL⟩ := S
  intro T hT X
  obtain ⟨v', st₀, t, T', L, h0, X', hLf, e1, e2, ⟨hv, hH2, hK2, hF⟩, step⟩ := hr T hT X
  obtain rfl : v' = v2 := Outcome.returned.inj hv
  have hal : s.vm.Alike t.vm := by rw [← e2]; exact X'.warmed.alike
  obtain ⟨hz, hk⟩ := hF
  rw [h0] at hz hk
  obtain ⟨t2, g1, g2⟩ := b4 p e R s m as below meth c T'.heap (locs ++ L) (cells + (h2.2.1 - h.2.1)) (slots + (h2.2.2.1 - h.2.2.1)) kC kS Q lsR C ⟨by rw [e1]; exact hH2.moved hal.symm, ⟨by rw [e1]; exact Nat.le_trans hS.1 hz, fun q h1 h2 => by
      rw [← a3] at h2
      rw [e1, hk q (Nat.lt_of_lt_of_le h1 hS.1) (by rw [← a3]; exact h2)]; exact hS.2.1 q h1 h2, fun q hq => by
      show h2.1 ≤ q.base
      rw [← a3]
      rcases List.mem_append.mp hq with g | g
      · exact hS.2.2 q g
      · exact hLf q g⟩, by rw [← a3]; exact hlo, hL⟩ r1 r2 (by omega) (by omega) (fun pcE stE lsE H' locs' u1 u2 u3 => KK pcE stE lsE H' locs' u1 u2 (by rw [a3]; exact u3)) T' rfl X'
  exact ⟨t2, step t2 g1, g2⟩
theorem r_callVg {stk As : List Value} {index n b ci : Nat} {fs : List Value} {r : vw_C} (hdg : decode M.2.1 pc = .ok (.invokevirtual index, 3)) (hm : mMeth M2 n) (hk : mLk M.1.cls index M2) (hv : mVirt M2) (hn : As.length = n) (hob : hGet h b = some (.inl (ci, fs))) (hc : vwCl[ci]? = some r) (hcl : r.1 = M2.1.cls) (hs : stk = As.reverse ++ .ref b :: st) (hW : (st.map fun v => v.category).sum ≤ 8)
    (hcall : RUNM G l d M2 (.ref b :: As) h Q2) (K : ∀ v h', Q2 v h' → RUN G l (d + 1) M (pc + 3) ls (v.toList ++ st) h' Q) : RUN G l (d + 1) M pc ls stk h Q := by
  subst hs
  refine r_callAny hcall (fun {v h2 p e R s m as below meth c H locs cells slots lsR} E C hH hL q1 q2 => ?_) K
  obtain ⟨hx, hb, -, hml, hown, hts, -, -, hK, hfr, hlo⟩ := C
  obtain ⟨m1, m2, m3, m4, m5⟩ := hm
  have hrec : ∃ cellB : Cell, H[b]? = some cellB ∧ cellB.vm.isStatics = false ∧ s.vm.findClass M2.1.cls = some cellB.cls := by
    obtain ⟨q', g0, cell, g1, g2, g3, -⟩ := hH.2.2 b _ hob
    exact ⟨cell, g1, by rw [g3]; rfl, by rw [g2, ← hcl]; exact (hK.1 ci r hc).2.1⟩
  have hp : PreV s H M2.1.cls b (mPc G (.ref b :: As) h) As := ⟨m_blind, hrec, fun U hU hW => ⟨rfl, by rw [hU]; exact hH.moved hW.alike, hK.moved hW.alike⟩⟩
  have hsig : ∀ sig, parseMethodDescriptor M2.1.desc = some sig → n = sig.parameters.length := fun sig h => by rw [h] at m5; exact (Option.some.inj m5).symm
  have hpay := m_pay hts m1
  rcases hk with hk | ⟨host, hk⟩
  · exact va_runV (C := M2.1.cls) (y := M2.1) (bytes := M2.2.1) (maxL := M2.2.2.1) (ret := M2.2.2.2) (ws := mWs M2) (n := n) ⟨hx, hb, hml, hown, hts⟩ E.2 ⟨⟨rfl, rfl, hfr, by show 8 + (M2.2.2.1 + 11) + (40 * d + 40) ≤ R.locals; omega, hpay, List.mem_cons_self, hts _ m1, hts _ m2, m3, hsig, hts _ hk⟩, hts _ hv.1, hts _ hv.2⟩ hp rfl hn hL.1 rfl (lv_room hW) hdg ⟨q1, q2⟩
  · exact va_runVN (C := M2.1.cls) (y := M2.1) (bytes := M2.2.1) (maxL := M2.2.2.1) (ret := M2.2.2.2) (ws := mWs M2) (n := n) ⟨hx, hb, hml, hown, hts⟩ E.2 ⟨⟨⟨rfl, rfl, hfr, by show 8 + (M2.2.2.1 + 11) + (40 * d + 40) ≤ R.locals; omega, hpay, List.mem_cons_self⟩, hts _ m1, hts _ m2, m3, hsig, hts _ hk⟩, hts _ hv.1, hts _ hv.2⟩ hp rfl hn hL.1 rfl (lv_room hW) hdg ⟨q1, q2⟩
theorem r_callSg {stk As : List Value} {index n : Nat} (hdg : decode M.2.1 pc = .ok (.invokestatic index, 3)) (hm : mMeth M2 n) (hk : mLk M.1.cls index M2) (hv : Cond.static M2.1 ∈ lw_use) (hn : As.length = n) (hs : stk = As.reverse ++ st) (hW : (st.map fun v => v.category).sum ≤ 8)
    (hcall : RUNM G l d M2 As h Q2) (K : ∀ v h', Q2 v h' → RUN G l (d + 1) M (pc + 3) ls (v.toList ++ st) h' Q) : RUN G l (d + 1) M pc ls stk h Q := by
  subst hs
  refine r_callAny hcall (fun {v h2 p e R s m as below meth c H locs cells slots lsR} E C hH hL q1 q2 => ?_) K
  obtain ⟨hx, hb, -, hml, hown, hts, -, -, hK, hfr, hlo⟩ := C
  obtain ⟨m1, m2, m3, m4, m5⟩ := hm
  have hp : PreS s H (mPc G As h) As := ⟨m_blind, fun U hU hW => ⟨rfl, by rw [hU]; exact hH.moved hW.alike, hK.moved hW.alike⟩⟩
  have hsig : ∀ sig, parseMethodDescriptor M2.1.desc = some sig → n = sig.parameters.length := fun sig h => by rw [h] at m5; exact (Option.some.inj m5).symm
  have hpay := m_pay hts m1
  rcases hk with hk | ⟨host, hk⟩
  · exact va_runS (y := M2.1) (bytes := M2.2.1) (maxL := M2.2.2.1) (ret := M2.2.2.2) (ws := mWs M2) (n := n) ⟨hx, hb, hml, hown, hts⟩ E.2 ⟨⟨rfl, rfl, hfr, by show 8 + (M2.2.2.1 + 11) + (40 * d + 40) ≤ R.locals; omega, hpay, List.mem_cons_self, hts _ m1, hts _ m2, m3, hsig, hts _ hk⟩, hts _ hv⟩ hp rfl hn hL.1 rfl (lv_room hW) hdg ⟨q1, q2⟩
  · exact va_runSN (y := M2.1) (bytes := M2.2.1) (maxL := M2.2.2.1) (ret := M2.2.2.2) (ws := mWs M2) (n := n) ⟨hx, hb, hml, hown, hts⟩ E.2 ⟨⟨⟨rfl, rfl, hfr, by show 8 + (M2.2.2.1 + 11) + (40 * d + 40) ≤ R.locals; omega, hpay, List.mem_cons_self⟩, hts _ m1, hts _ m2, m3, hsig, hts _ hk⟩, hts _ hv, trivial⟩ hp rfl hn hL.1 rfl (lv_room hW) hdg ⟨q1, q2⟩
theorem r_callIg {stk As : List Value} {index n b : Nat} (hdg : decode M.2.1 pc = .ok (.invokespecial index, 3)) (hm : mMeth M2 n) (hret : M2.2.2.2 = none) (hk : mLk M.1.cls index M2) (hy : M2.1.name = "<init>") (hi : Cond.instanceMethod M2.1 ∈ lw_use) (hn : As.length = n) (hs : stk = As.reverse ++ .ref b :: st) (hW : (st.map fun v => v.category).sum ≤ 8)
    (hcall : RUNM G l d M2 (.ref b :: As) h Q2) (K : ∀ v h', Q2 v h' → RUN G l (d + 1) M (pc + 3) ls (v.toList ++ st) h' Q) : RUN G l (d + 1) M pc ls stk h Q := by
  subst hs
  refine r_callAny hcall (fun {v h2 p e R s m as below meth c H locs cells slots lsR} E C hH hL q1 q2 => ?_) K
  obtain ⟨hx, hb, -, hml, hown, hts, -, -, hK, hfr, hlo⟩ := C
  obtain ⟨m1, m2, m3, m4, m5⟩ := hm
  have hp : PreS s H (mPc G (.ref b :: As) h) (.ref b :: As) := ⟨m_blind, fun U hU hW => ⟨rfl, by rw [hU]; exact hH.moved hW.alike, hK.moved hW.alike⟩⟩
  have hsig : ∀ sig, parseMethodDescriptor M2.1.desc = some sig → n = sig.parameters.length := fun sig h => by rw [h] at m5; exact (Option.some.inj m5).symm
  have hpay := m_pay hts m1
  have hcw : Cond.code M2.1 M2.2.1 M2.2.2.1 none ∈ mWs M2 := by rw [← hret]; exact List.mem_cons_self
  have m1' : Cond.code M2.1 M2.2.1 M2.2.2.1 none ∈ lw_use := by rw [← hret]; exact m1
  rcases hk with hk | ⟨host, hk⟩
  · exact va_runI (y := M2.1) (bytes := M2.2.1) (maxL := M2.2.2.1) (ws := mWs M2) (n := n) ⟨hx, hb, hml, hown, hts⟩ E.2 ⟨⟨rfl, rfl, hfr, by show 8 + (M2.2.2.1 + 11) + (40 * d + 40) ≤ R.locals; omega, hpay, hcw, hts _ m1', hts _ m2, m3, hsig, hts _ hk⟩, hy, hts _ hi⟩ hp rfl hn hL.1 rfl (lv_room hW) hdg ⟨q1, q2⟩
  · exact va_runIN (y := M2.1) (bytes := M2.2.1) (maxL := M2.2.2.1) (ws := mWs M2) (n := n) ⟨hx, hb, hml, hown, hts⟩ E.2 ⟨⟨⟨rfl, rfl, hfr, by show 8 + (M2.2.2.1 + 11) + (40 * d + 40) ≤ R.locals; omega, hpay, hcw⟩, hts _ m1', hts _ m2, m3, hsig, hts _ hk⟩, hy, hts _ hi⟩ hp rfl hn hL.1 rfl (lv_room hW) hdg ⟨q1, q2⟩
theorem lw_oi0 : Cond.instanceMethod Lib.objectInit ∈ lw_tbl ∧ Cond.code Lib.objectInit ⟨#[0xb1]⟩ 1 none ∈ lw_tbl := by decide +kernel
theorem lw_oi : Cond.instanceMethod Lib.objectInit ∈ lw_use ∧ Cond.code Lib.objectInit ⟨#[0xb1]⟩ 1 none ∈ lw_use := ⟨lw_use_in lw_oi0.1 rfl, lw_use_in lw_oi0.2 rfl⟩
theorem r_objInit {idx a : Nat} (hdg : decode M.2.1 pc = .ok (.invokespecial idx, 3)) (hw : Cond.methodLink M.1.cls idx Lib.objectInit ∈ lw_use) (hW : (st.map fun v => v.category).sum ≤ 8) (K : RUN G l (d + 1) M (pc + 3) ls st h Q) : RUN G l (d + 1) M pc ls (.ref a :: st) h Q := by
  refine RUN.step (fun v h' b => ⟨b.1, fun p e R s m args below meth c H locs cells slots kC kS Q lsR C S r1 r2 r3 r4 KK => ?_⟩) K
  have w := b.2 p e R s m args below meth c H locs cells slots kC kS Q lsR C S r1 r2 r3 r4 KK
  obtain ⟨hx, hb, -, hml, hown, hts, -, -, hK, hfr, hlo⟩ := C
  exact W.objInit hx hb hown (hts _ hw) (hts _ lw_oi.1) (hts _ lw_oi.2) rfl (by rw [hml]; exact S.2.2.2.1) rfl hdg (by omega) (by
    have := lv_room (m := m) (pc := pc) (ls := lsR) (rest := .ref a :: st) hW
    omega) w
theorem lw_ac0 : Cond.native arraycopyName ∈ lw_tbl ∧ Cond.static arraycopyName ∈ lw_tbl ∧ Cond.initialized "java/lang/System" ∈ lw_tbl := by decide +kernel
theorem lw_ac : Cond.native arraycopyName ∈ lw_use ∧ Cond.static arraycopyName ∈ lw_use ∧ Cond.initialized "java/lang/System" ∈ lw_use := ⟨lw_use_in lw_ac0.1 rfl, lw_use_in lw_ac0.2.1 rfl, lw_use_in lw_ac0.2.2 rfl⟩
theorem m_rowAt {s : State} {H : Heap} {a n : Nat} {f : Nat → Int32} (hH : mHOk G s h H) (ho : hGet h a = some (.inr (.inl (n, f)))) (hlo : h.1 ≤ a) : ∃ cA : ClassId, G.2[0]? = some (cA, FieldType.int) ∧ H[a]? = some (vp_cell cA (n, .inl f)) := by
  rcases hH.2.2 a _ ho with z | ⟨z, -⟩
  · exact z
  · omega
theorem r_acopy {index a0 a n0 n1 : Nat} {f g : Nat → Int32} {sp dp n : Int32} (hdg : decode M.2.1 pc = .ok (.invokestatic index, 3)) (hw : Cond.methodLink M.1.cls index arraycopyName ∈ lw_use) (ho0 : hGet h a0 = some (.inr (.inl (n0, f)))) (ho1 : hGet h a = some (.inr (.inl (n1, g)))) (hlo0 : h.1 ≤ a0) (hlo : h.1 ≤ a)
    (h1 : ¬ sp < 0) (h2 : ¬ dp < 0) (h3 : ¬ n < 0) (h4 : sp.toNatClampNeg + n.toNatClampNeg ≤ n0) (h5 : dp.toNatClampNeg + n.toNatClampNeg ≤ n1) (hW : (st.map fun v => v.category).sum ≤ 8)
    (K : RUN G l (d + 1) M (pc + 3) ls st (hPut h a (.inr (.inl (n1, va_cpy f g sp.toNatClampNeg dp.toNatClampNeg n.toNatClampNeg)))) Q) : RUN G l (d + 1) M pc ls (.int n :: .int dp :: .ref a :: .int sp :: .ref a0 :: st) h Q := by
  have nn : ∀ z : Int32, ¬ z < 0 → z.toInt = (z.toNatClampNeg : Int) := by
    intro z hz
    have hz0 : (0 : Int) ≤ z.toInt := by
      have := Int32.not_lt.mp hz
      simpa using Int32.le_iff_toInt_le.mp this
    show z.toInt = ((z.toInt.toNat : Nat) : Int)
    omega
  refine r_put hlo (fun {p e R s m args below meth c H locs cells slots Q lsR} C hH hL w => ?_) K
  obtain ⟨hx, hb, -, hml, hown, hts, -, -, hK, hfr, hloc⟩ := C
  obtain ⟨c0, z0, hc0⟩ := m_rowAt hH ho0 hlo0
  obtain ⟨c1, z1, hc1⟩ := m_rowAt hH ho1 hlo
  intro T hT X
  obtain ⟨-, k0, hk0, cm0, hkk0⟩ := (m_tyOf hK z0).1 n0 (fun j => .int (f j))
  obtain ⟨-, k1, hk1, cm1, hkk1⟩ := (m_tyOf hK z1).1 n1 (fun j => .int (g j))
  obtain ⟨vm', X', step⟩ := X.arraycopy hx hown (hts _ hw) (hts _ lw_ac.1) (hts _ lw_ac.2.1) (hts _ lw_ac.2.2) (src := a0) (dst := a) (cs := vp_cell c0 (n0, .inl f)) (cd := vp_cell c1 (n1, .inl g)) (srcPos := sp) (destPos := dp) (n := n) (by rw [hT]; exact hc0) (by rw [hT]; exact hc1)
    (fun _ h => by cases h) (fun _ h => by cases h) (fun h => by cases h) (fun h => by cases h) hk0 hk1 hkk0 hkk1 (by simp [refKind]) h1 h2 h3
    (by rw [nn sp h1, nn n h3]; show ¬ _ > ((arrV c0 n0 (fun j => .int (f j))).slots.size : Int); rw [arrV_size]; omega)
    (by rw [nn dp h2, nn n h3]; show ¬ _ > ((arrV c1 n1 (fun j => .int (g j))).slots.size : Int); rw [arrV_size]; omega)
    (fun vm₁ _ i hi => by
      have e : (vp_cell c0 (n0, .inl f)).slots.getD (sp.toNatClampNeg + i) .null = .int (f (sp.toNatClampNeg + i)) := by
        show (arrV c0 n0 (fun j => .int (f j))).slots.getD _ _ = _
        rw [Array.getD_eq_getD_getElem?, arrV_read _ _ (by omega)]
        rfl
      refine ⟨?_, ?_⟩
      · rw [e]
        rfl
      · rw [e]
        exact trivial)
    (g := F0 m pc lsR (.int n :: .int dp :: .ref a :: .int sp :: .ref a0 :: st)) rfl (by rw [hml]; exact hL.1) (rest := st) rfl (by rw [hb]; exact hdg) (by omega) (by
      have z := lv_room (m := m) (pc := pc) (ls := lsR) (rest := st) hW
      have z2 : nativeFrameWords "java/lang/System" "arraycopy" 5 ≤ 12 := by decide +kernel
      show 2 * 0 + _ + _ ≤ _
      omega)
  have e1 : copied (vp_cell c0 (n0, .inl f)) (vp_cell c1 (n1, .inl g)) sp dp n = vp_cell c1 (n1, .inl (va_cpy f g sp.toNatClampNeg dp.toNatClampNeg n.toNatClampNeg)) := va_copied (fun z => .int z) c0 c1 f g h4
  rw [e1] at X' step
  have hl : a < H.size := (Array.getElem?_eq_some_iff.mp hc1).1
  have hheap : ((T.setVm vm').setCell a (vp_cell c1 (n1, .inl (va_cpy f g sp.toNatClampNeg dp.toNatClampNeg n.toNatClampNeg)))).heap = H.setIfInBounds a (vp_cell c1 (n1, .inl (va_cpy f g sp.toNatClampNeg dp.toNatClampNeg n.toNatClampNeg))) := by rw [← hT]; rfl
  have oq : ∀ q : Nat, q ≠ a → (H.setIfInBounds a (vp_cell c1 (n1, .inl (va_cpy f g sp.toNatClampNeg dp.toNatClampNeg n.toNatClampNeg))))[q]? = H[q]? := fun q hq => by simp [Array.getElem?_setIfInBounds, Ne.symm hq]
  obtain ⟨t, a1, b1⟩ := w _ _ (fun x hx => by
      rcases List.mem_append.mp hx with g | g
      · exact Or.inl g
      · obtain ⟨z, -, hz⟩ := List.mem_map.mp g
        rw [← hz]
        exact Or.inr rfl) (by simp) oq (Or.inl ⟨c1, z1, by simp [Array.getElem?_setIfInBounds, hl]⟩) _ hheap X'
  exact ⟨t, step t a1, b1⟩
theorem r_callV0 {index b ci : Nat} {fs : List Value} {r : vw_C} (hdg : decode M.2.1 pc = .ok (.invokevirtual index, 3)) (hm : mMeth M2 0) (hk : mLk M.1.cls index M2) (hv : mVirt M2) (hob : hGet h b = some (.inl (ci, fs))) (hc : vwCl[ci]? = some r) (hcl : r.1 = M2.1.cls) (hW : (st.map fun v => v.category).sum ≤ 8)
    (hcall : RUNM G l d M2 (.ref b :: []) h Q2) (K : ∀ v h', Q2 v h' → RUN G l (d + 1) M (pc + 3) ls (v.toList ++ st) h' Q) : RUN G l (d + 1) M pc ls (.ref b :: st) h Q := r_callVg (As := []) hdg hm hk hv rfl hob hc hcl rfl hW hcall K
theorem r_callI0 {index b : Nat} (hdg : decode M.2.1 pc = .ok (.invokespecial index, 3)) (hm : mMeth M2 0) (hret : M2.2.2.2 = none) (hk : mLk M.1.cls index M2) (hy : M2.1.name = "<init>") (hi : Cond.instanceMethod M2.1 ∈ lw_use) (hW : (st.map fun v => v.category).sum ≤ 8)
    (hcall : RUNM G l d M2 (.ref b :: []) h Q2) (K : ∀ v h', Q2 v h' → RUN G l (d + 1) M (pc + 3) ls (v.toList ++ st) h' Q) : RUN G l (d + 1) M pc ls (.ref b :: st) h Q := r_callIg (As := []) hdg hm hret hk hy hi rfl rfl hW hcall K
theorem r_callV1 {x1 : Value} {index b ci : Nat} {fs : List Value} {r : vw_C} (hdg : decode M.2.1 pc = .ok (.invokevirtual index, 3)) (hm : mMeth M2 1) (hk : mLk M.1.cls index M2) (hv : mVirt M2) (hob : hGet h b = some (.inl (ci, fs))) (hc : vwCl[ci]? = some r) (hcl : r.1 = M2.1.cls) (hW : (st.map fun v => v.category).sum ≤ 8)
    (hcall : RUNM G l d M2 (.ref b :: [x1]) h Q2) (K : ∀ v h', Q2 v h' → RUN G l (d + 1) M (pc + 3) ls (v.toList ++ st) h' Q) : RUN G l (d + 1) M pc ls (x1 :: .ref b :: st) h Q := r_callVg (As := [x1]) hdg hm hk hv rfl hob hc hcl rfl hW hcall K
theorem r_callI1 {x1 : Value} {index b : Nat} (hdg : decode M.2.1 pc = .ok (.invokespecial index, 3)) (hm : mMeth M2 1) (hret : M2.2.2.2 = none) (hk : mLk M.1.cls index M2) (hy : M2.1.name = "<init>") (hi : Cond.instanceMethod M2.1 ∈ lw_use) (hW : (st.map fun v => v.category).sum ≤ 8)
    (hcall : RUNM G l d M2 (.ref b :: [x1]) h Q2) (K : ∀ v h', Q2 v h' → RUN G l (d + 1) M (pc + 3) ls (v.toList ++ st) h' Q) : RUN G l (d + 1) M pc ls (x1 :: .ref b :: st) h Q := r_callIg (As := [x1]) hdg hm hret hk hy hi rfl rfl hW hcall K
theorem r_callV2 {x1 x2 : Value} {index b ci : Nat} {fs : List Value} {r : vw_C} (hdg : decode M.2.1 pc = .ok (.invokevirtual index, 3)) (hm : mMeth M2 2) (hk : mLk M.1.cls index M2) (hv : mVirt M2) (hob : hGet h b = some (.inl (ci, fs))) (hc : vwCl[ci]? = some r) (hcl : r.1 = M2.1.cls) (hW : (st.map fun v => v.category).sum ≤ 8)
    (hcall : RUNM G l d M2 (.ref b :: [x1, x2]) h Q2) (K : ∀ v h', Q2 v h' → RUN G l (d + 1) M (pc + 3) ls (v.toList ++ st) h' Q) : RUN G l (d + 1) M pc ls (x2 :: x1 :: .ref b :: st) h Q := r_callVg (As := [x1, x2]) hdg hm hk hv rfl hob hc hcl rfl hW hcall K
theorem r_callV3 {x1 x2 x3 : Value} {index b ci : Nat} {fs : List Value} {r : vw_C} (hdg : decode M.2.1 pc = .ok (.invokevirtual index, 3)) (hm : mMeth M2 3) (hk : mLk M.1.cls index M2) (hv : mVirt M2) (hob : hGet h b = some (.inl (ci, fs))) (hc : vwCl[ci]? = some r) (hcl : r.1 = M2.1.cls) (hW : (st.map fun v => v.category).sum ≤ 8)
    (hcall : RUNM G l d M2 (.ref b :: [x1, x2, x3]) h Q2) (K : ∀ v h', Q2 v h' → RUN G l (d + 1) M (pc + 3) ls (v.toList ++ st) h' Q) : RUN G l (d + 1) M pc ls (x3 :: x2 :: x1 :: .ref b :: st) h Q := r_callVg (As := [x1, x2, x3]) hdg hm hk hv rfl hob hc hcl rfl hW hcall K
theorem r_callV4 {x1 x2 x3 x4 : Value} {index b ci : Nat} {fs : List Value} {r : vw_C} (hdg : decode M.2.1 pc = .ok (.invokevirtual index, 3)) (hm : mMeth M2 4) (hk : mLk M.1.cls index M2) (hv : mVirt M2) (hob : hGet h b = some (.inl (ci, fs))) (hc : vwCl[ci]? = some r) (hcl : r.1 = M2.1.cls) (hW : (st.map fun v => v.category).sum ≤ 8)
    (hcall : RUNM G l d M2 (.ref b :: [x1, x2, x3, x4]) h Q2) (K : ∀ v h', Q2 v h' → RUN G l (d + 1) M (pc + 3) ls (v.toList ++ st) h' Q) : RUN G l (d + 1) M pc ls (x4 :: x3 :: x2 :: x1 :: .ref b :: st) h Q := r_callVg (As := [x1, x2, x3, x4]) hdg hm hk hv rfl hob hc hcl rfl hW hcall K
theorem r_callV5 {x1 x2 x3 x4 x5 : Value} {index b ci : Nat} {fs : List Value} {r : vw_C} (hdg : decode M.2.1 pc = .ok (.invokevirtual index, 3)) (hm : mMeth M2 5) (hk : mLk M.1.cls index M2) (hv : mVirt M2) (hob : hGet h b = some (.inl (ci, fs))) (hc : vwCl[ci]? = some r) (hcl : r.1 = M2.1.cls) (hW : (st.map fun v => v.category).sum ≤ 8)
    (hcall : RUNM G l d M2 (.ref b :: [x1, x2, x3, x4, x5]) h Q2) (K : ∀ v h', Q2 v h' → RUN G l (d + 1) M (pc + 3) ls (v.toList ++ st) h' Q) : RUN G l (d + 1) M pc ls (x5 :: x4 :: x3 :: x2 :: x1 :: .ref b :: st) h Q := r_callVg (As := [x1, x2, x3, x4, x5]) hdg hm hk hv rfl hob hc hcl rfl hW hcall K
theorem r_callV6 {x1 x2 x3 x4 x5 x6 : Value} {index b ci : Nat} {fs : List Value} {r : vw_C} (hdg : decode M.2.1 pc = .ok (.invokevirtual index, 3)) (hm : mMeth M2 6) (hk : mLk M.1.cls index M2) (hv : mVirt M2) (hob : hGet h b = some (.inl (ci, fs))) (hc : vwCl[ci]? = some r) (hcl : r.1 = M2.1.cls) (hW : (st.map fun v => v.category).sum ≤ 8)
    (hcall : RUNM G l d M2 (.ref b :: [x1, x2, x3, x4, x5, x6]) h Q2) (K : ∀ v h', Q2 v h' → RUN G l (d + 1) M (pc + 3) ls (v.toList ++ st) h' Q) : RUN G l (d + 1) M pc ls (x6 :: x5 :: x4 :: x3 :: x2 :: x1 :: .ref b :: st) h Q := r_callVg (As := [x1, x2, x3, x4, x5, x6]) hdg hm hk hv rfl hob hc hcl rfl hW hcall K
theorem r_callS1 {x1 : Value} {index : Nat} (hdg : decode M.2.1 pc = .ok (.invokestatic index, 3)) (hm : mMeth M2 1) (hk : mLk M.1.cls index M2) (hv : Cond.static M2.1 ∈ lw_use) (hW : (st.map fun v => v.category).sum ≤ 8)
    (hcall : RUNM G l d M2 [x1] h Q2) (K : ∀ v h', Q2 v h' → RUN G l (d + 1) M (pc + 3) ls (v.toList ++ st) h' Q) : RUN G l (d + 1) M pc ls (x1 :: st) h Q := r_callSg (As := [x1]) hdg hm hk hv rfl rfl hW hcall K
theorem r_callS2 {x1 x2 : Value} {index : Nat} (hdg : decode M.2.1 pc = .ok (.invokestatic index, 3)) (hm : mMeth M2 2) (hk : mLk M.1.cls index M2) (hv : Cond.static M2.1 ∈ lw_use) (hW : (st.map fun v => v.category).sum ≤ 8)
    (hcall : RUNM G l d M2 [x1, x2] h Q2) (K : ∀ v h', Q2 v h' → RUN G l (d + 1) M (pc + 3) ls (v.toList ++ st) h' Q) : RUN G l (d + 1) M pc ls (x2 :: x1 :: st) h Q := r_callSg (As := [x1, x2]) hdg hm hk hv rfl rfl hW hcall K
theorem r_callS3 {x1 x2 x3 : Value} {index : Nat} (hdg : decode M.2.1 pc = .ok (.invokestatic index, 3)) (hm : mMeth M2 3) (hk : mLk M.1.cls index M2) (hv : Cond.static M2.1 ∈ lw_use) (hW : (st.map fun v => v.category).sum ≤ 8)
    (hcall : RUNM G l d M2 [x1, x2, x3] h Q2) (K : ∀ v h', Q2 v h' → RUN G l (d + 1) M (pc + 3) ls (v.toList ++ st) h' Q) : RUN G l (d + 1) M pc ls (x3 :: x2 :: x1 :: st) h Q := r_callSg (As := [x1, x2, x3]) hdg hm hk hv rfl rfl hW hcall K
end CA
end mg_03d

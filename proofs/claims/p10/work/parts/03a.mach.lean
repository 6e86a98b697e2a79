/-! ===== THE CLEAN MACHINE: an abstract heap, one judgement for every method. EV: from (pc, locals, stack, heap) the method comes to its return with (v, h'); EVM: a call's contract; RUN, RUNM: the same with a predicate on the end ===== -/
/-- words that stay true while the tables warm: the table's words of these kinds are all that a method needs -/
def mWarm (w : Cond) : Bool := goodWord w || (match w with
  | .methodLinkNest _ _ _ _ => true
  | .arrayOver (.object _) => true
  | _ => false)
def lw_use : List Cond := lw_tbl.filter mWarm
theorem lw_use_in {w : Cond} (h : w ∈ lw_tbl) (g : mWarm w = true) : w ∈ lw_use := List.mem_filter.mpr ⟨h, g⟩
theorem lw_use_of {w : Cond} (h : w ∈ lw_use) : w ∈ lw_tbl ∧ mWarm w = true := List.mem_filter.mp h
theorem m_warm {w : Cond} (hw : mWarm w = true) {as : Array Value} {s U : State} (hU : s.WarmedH U.vm) (a' : Array Value) (h : w.before as s = true) : w.before a' U = true := by
  by_cases hg : goodWord w = true
  · exact word_at hU (good_of_word hg) h
  · simp only [mWarm, Bool.or_eq_true, hg, false_or] at hw
    split at hw
    · exact va_Nw.use rfl (va_Nw.warmM hU (va_Nw.of rfl h))
    · exact va_AO.use (va_AO.moved hU.alike (va_AO.of h))
    · simp at hw
abbrev mG : Type := va_G × List (ClassId × FieldType)
/-- an object: of a class (its number in vwCl), an int row, a row of objects (place of its type in the list of row types) -/
abbrev mO : Type := (Nat × List Value) ⊕ ((Nat × (Nat → Int32)) ⊕ (Nat × Nat × (Nat → Option Nat)))
/-- a heap: from where on it is ours, its size, how many slots were made, what stands where -/
abbrev mH : Type := Nat × Nat × Nat × (Nat → Option mO)
/-- a method: name, bytes, locals, what it returns -/
abbrev mM : Type := MethodName × ByteArray × Nat × Option FieldType
def mAt (G : mG) (s : State) (lo a : Nat) (o : mO) (H : Heap) : Prop := match o with
  | .inl (ci, fs) => va_at G.1 vwCl (a, .inr (ci, fs)) H
  | .inr (.inl (n, f)) => (∃ cA : ClassId, G.2[0]? = some (cA, FieldType.int) ∧ H[a]? = some (vp_cell cA (n, .inl f))) ∨ (a < lo ∧ va_X a n f s H)
  | .inr (.inr (t, n, f)) => ∃ (cA : ClassId) (C : String), G.2[t]? = some (cA, FieldType.object C) ∧ H[a]? = some (vp_cell cA (n, .inr (.inr (.inr (.inr f)))))
theorem mAt.kept {G : mG} {s : State} {lo a : Nat} {o : mO} {H H1 : Heap} (h : mAt G s lo a o H) (hq : H1[a]? = H[a]?) : mAt G s lo a o H1 := by
  rcases o with ⟨ci, fs⟩ | ⟨n, f⟩ | ⟨t, n, f⟩
  · exact va_at.kept (q := (a, .inr (ci, fs))) h hq
  · rcases h with ⟨cA, h1, h2⟩ | ⟨h1, h2⟩
    · exact Or.inl ⟨cA, h1, by rw [hq]; exact h2⟩
    · exact Or.inr ⟨h1, h2.kept hq⟩
  · obtain ⟨cA, C, h1, h2⟩ := h
    exact ⟨cA, C, h1, by rw [hq]; exact h2⟩
theorem mAt.lt {G : mG} {s : State} {lo a : Nat} {o : mO} {H : Heap} (h : mAt G s lo a o H) : a < H.size := by
  rcases o with ⟨ci, fs⟩ | ⟨n, f⟩ | ⟨t, n, f⟩
  · exact va_at.lt (q := (a, .inr (ci, fs))) h
  · rcases h with ⟨cA, h1, h2⟩ | ⟨h1, scr, h2, h3⟩
    · exact (Array.getElem?_eq_some_iff.mp h2).1
    · exact (Array.getElem?_eq_some_iff.mp h2).1
  · obtain ⟨cA, C, h1, h2⟩ := h
    exact (Array.getElem?_eq_some_iff.mp h2).1
theorem mAt.moved {G : mG} {s U : State} {lo a : Nat} {o : mO} {H : Heap} (hvm : s.vm.Alike U.vm) (h : mAt G s lo a o H) : mAt G U lo a o H := by
  rcases o with ⟨ci, fs⟩ | ⟨n, f⟩ | ⟨t, n, f⟩
  · exact h
  · rcases h with h | ⟨h1, h2⟩
    · exact Or.inl h
    · exact Or.inr ⟨h1, h2.moved hvm⟩
  · exact h
def mHOk (G : mG) (s : State) (h : mH) (H : Heap) : Prop := H.size = h.2.1 ∧ h.1 ≤ h.2.1 ∧ ∀ (a : Nat) (o : mO), h.2.2.2 a = some o → mAt G s h.1 a o H
theorem mHOk.moved {G : mG} {s U : State} {h : mH} {H : Heap} (hvm : s.vm.Alike U.vm) (k : mHOk G s h H) : mHOk G U h H := ⟨k.1, k.2.1, fun a o ho => (k.2.2 a o ho).moved hvm⟩
def hGet (h : mH) (a : Nat) : Option mO := h.2.2.2 a
def hPut (h : mH) (a : Nat) (o : mO) : mH := (h.1, h.2.1, h.2.2.1, fun q => if q = a then some o else h.2.2.2 q)
def hNew (h : mH) (n : Nat) (o : mO) : mH := (h.1, h.2.1 + 1, h.2.2.1 + n, fun q => if q = h.2.1 then some o else h.2.2.2 q)
theorem mHOk.put {G : mG} {s : State} {h : mH} {H H1 : Heap} {a : Nat} {o : mO} (k : mHOk G s h H) (z : H1.size = H.size) (oq : ∀ q : Nat, q ≠ a → H1[q]? = H[q]?) (ha : mAt G s h.1 a o H1) : mHOk G s (hPut h a o) H1 := by
  refine ⟨z.trans k.1, k.2.1, fun b p hb => ?_⟩
  by_cases hab : b = a
  · subst hab
    have e : p = o := by
      have := hb
      simp [hPut] at this
      exact this.symm
    rw [e]
    exact ha
  · have e : h.2.2.2 b = some p := by
      have := hb
      simp [hPut, hab] at this
      exact this
    exact (k.2.2 b p e).kept (oq b hab)
theorem mHOk.new {G : mG} {s : State} {h : mH} {H H1 : Heap} {n : Nat} {o : mO} (k : mHOk G s h H) (z : H1.size = H.size + 1) (oq : ∀ q : Nat, q < H.size → H1[q]? = H[q]?) (ha : mAt G s h.1 h.2.1 o H1) : mHOk G s (hNew h n o) H1 := by
  refine ⟨by rw [z, k.1]; rfl, Nat.le_succ_of_le k.2.1, fun b p hb => ?_⟩
  by_cases hab : b = h.2.1
  · subst hab
    have e : p = o := by
      have := hb
      simp [hNew] at this
      exact this.symm
    rw [e]
    exact ha
  · have e : h.2.2.2 b = some p := by
      have := hb
      simp [hNew, hab] at this
      exact this
    have hm := k.2.2 b p e
    exact hm.kept (oq b hm.lt)
/-! locals by places -/
def lsL : Nat → List (Option Value) → List (Nat × Value)
  | _, [] => []
  | i, none :: t => lsL (i + 1) t
  | i, some v :: t => (i, v) :: lsL (i + 1) t
theorem lsL_in : ∀ (ls : List (Option Value)) (k : Nat) (q : Nat × Value), q ∈ lsL k ls ↔ ∃ j, ls[j]? = some (some q.2) ∧ q.1 = k + j
  | [], k, q => by simp [lsL]
  | none :: t, k, q => by
    rw [lsL, lsL_in t (k + 1) q]
    constructor
    · rintro ⟨j, h1, h2⟩
      exact ⟨j + 1, by simpa using h1, by omega⟩
    · rintro ⟨j, h1, h2⟩
      cases j with
      | zero => simp at h1
      | succ j => exact ⟨j, by simpa using h1, by omega⟩
  | some v :: t, k, q => by
    rw [lsL, List.mem_cons, lsL_in t (k + 1) q]
    constructor
    · rintro (rfl | ⟨j, h1, h2⟩)
      · exact ⟨0, by simp, by simp⟩
      · exact ⟨j + 1, by simpa using h1, by omega⟩
    · rintro ⟨j, h1, h2⟩
      cases j with
      | zero =>
        left
        obtain ⟨a, b⟩ := q
        simp at h1 h2
        simp [h1, h2]
      | succ j => exact Or.inr ⟨j, by simpa using h1, by omega⟩
theorem lsL_at {lsR : Array Slot} {nL : Nat} {ls : List (Option Value)} (h : lv_has lsR nL (lsL 0 ls)) {i : Nat} {v : Value} (hi : ls[i]? = some (some v)) : lsR[i]? = some (.val v) :=
  h.2.2 (i, v) ((lsL_in ls 0 (i, v)).mpr ⟨i, hi, by simp⟩)
def lsSt (ls : List (Option Value)) (i : Nat) (v : Value) : List (Option Value) := match i with
  | 0 => ls.set 0 (some v)
  | k + 1 => match ls[k]? with
    | some (some w) => if w.category = 2 then (ls.set k none).set (k + 1) (some v) else ls.set (k + 1) (some v)
    | _ => ls.set (k + 1) (some v)
def lsSt2 (ls : List (Option Value)) (i : Nat) (v : Value) : List (Option Value) := (lsSt ls i v).set (i + 1) none
theorem ls_set {ls : List (Option Value)} {i j : Nat} {x : Option Value} {w : Value} (h : (ls.set i x)[j]? = some (some w)) : (j = i ∧ x = some w) ∨ (j ≠ i ∧ ls[j]? = some (some w)) := by
  by_cases e : i = j
  · subst e
    left
    rw [List.getElem?_set] at h
    simp at h
    exact ⟨rfl, h.2⟩
  · rw [List.getElem?_set_ne e] at h
    exact Or.inr ⟨fun q => e q.symm, h⟩
theorem lsSt_get {ls : List (Option Value)} {i j : Nat} {v w : Value} (h : (lsSt ls i v)[j]? = some (some w)) : (j = i ∧ w = v) ∨ (j ≠ i ∧ ls[j]? = some (some w) ∧ ¬ (j + 1 = i ∧ w.category = 2)) := by
  cases i with
  | zero =>
    rcases ls_set h with ⟨h1, h2⟩ | ⟨h1, h2⟩
    · exact Or.inl ⟨h1, (Option.some.inj h2).symm⟩
    · exact Or.inr ⟨h1, h2, fun q => by omega⟩
  | succ k =>
    have hd : (lsSt ls (k + 1) v) = (match ls[k]? with
      | some (some w) => if w.category = 2 then (ls.set k none).set (k + 1) (some v) else ls.set (k + 1) (some v)
      | _ => ls.set (k + 1) (some v)) := rfl
    rw [hd] at h
    split at h
    · rename_i w0 hw0
      split at h
      · rcases ls_set h with ⟨h1, h2⟩ | ⟨h1, h2⟩
        · exact Or.inl ⟨h1, (Option.some.inj h2).symm⟩
        · rcases ls_set h2 with ⟨h3, h4⟩ | ⟨h3, h4⟩
          · cases h4
          · exact Or.inr ⟨h1, h4, fun q => by omega⟩
      · rename_i hc
        rcases ls_set h with ⟨h1, h2⟩ | ⟨h1, h2⟩
        · exact Or.inl ⟨h1, (Option.some.inj h2).symm⟩
        · refine Or.inr ⟨h1, h2, fun q => ?_⟩
          have e : j = k := by omega
          subst e
          rw [hw0] at h2
          simp at h2
          subst h2
          exact hc q.2
    · rename_i hno
      rcases ls_set h with ⟨h1, h2⟩ | ⟨h1, h2⟩
      · exact Or.inl ⟨h1, (Option.some.inj h2).symm⟩
      · refine Or.inr ⟨h1, h2, fun q => ?_⟩
        have e : j = k := by omega
        subst e
        exact hno w h2
theorem lsSt_ok {lsR : Array Slot} {nL : Nat} {ls : List (Option Value)} {i : Nat} {v : Value} (h : lv_has lsR nL ((i, v) :: (lsL 0 ls).filter (fun q => !(q.1 == i) && !(q.1 + 1 == i && q.2.category == 2)))) : lv_has lsR nL (lsL 0 (lsSt ls i v)) := by
  refine ⟨h.1, h.2.1, fun q hq => h.2.2 q ?_⟩
  obtain ⟨j, hj, e⟩ := (lsL_in _ _ _).mp hq
  obtain ⟨a, b⟩ := q
  simp only [Nat.zero_add] at e hj
  subst e
  rcases lsSt_get hj with ⟨h1, h2⟩ | ⟨h1, h2, h3⟩
  · subst h1; subst h2
    exact List.mem_cons_self
  · refine List.mem_cons_of_mem _ (List.mem_filter.mpr ⟨(lsL_in _ _ _).mpr ⟨a, h2, by simp⟩, ?_⟩)
    by_cases h4 : a + 1 = i
    · have h5 : ¬ b.category = 2 := fun q => h3 ⟨h4, q⟩
      simp [h1, h5]
    · simp [h1, h4]
theorem lsSt2_ok {lsR : Array Slot} {nL : Nat} {ls : List (Option Value)} {i : Nat} {v : Value} (h : lv_has lsR nL ((i, v) :: (lsL 0 ls).filter (fun q => !(q.1 == i) && (!(q.1 == i + 1) && !(q.1 + 1 == i && q.2.category == 2))))) : lv_has lsR nL (lsL 0 (lsSt2 ls i v)) := by
  refine ⟨h.1, h.2.1, fun q hq => h.2.2 q ?_⟩
  obtain ⟨j, hj, e⟩ := (lsL_in _ _ _).mp hq
  obtain ⟨a, b⟩ := q
  simp only [Nat.zero_add] at e hj
  subst e
  rcases ls_set hj with ⟨h1, h2⟩ | ⟨h0, hj⟩
  · cases h2
  rcases lsSt_get hj with ⟨h1, h2⟩ | ⟨h1, h2, h3⟩
  · subst h1; subst h2
    exact List.mem_cons_self
  · refine List.mem_cons_of_mem _ (List.mem_filter.mpr ⟨(lsL_in _ _ _).mpr ⟨a, h2, by simp⟩, ?_⟩)
    by_cases h4 : a + 1 = i
    · have h5 : ¬ b.category = 2 := fun q => h3 ⟨h4, q⟩
      simp [h1, h0, h5]
    · simp [h1, h0, h4]
/-! the judgement -/
def mCx (G : mG) (M : mM) (d : Nat) (p : Program) (R : Room) (s : State) (m : MethodId) (args : Array Value) (meth : Method) (c : Code) : Prop :=
  p.tables.exec = Jvm.exec ∧ c.code = M.2.1 ∧ meth.sig.returnType = M.2.2.2 ∧ c.maxLocals = M.2.2.1 ∧ s.vm.findClass M.1.cls = some m.cls ∧ (∀ w ∈ lw_use, w.before args s = true) ∧ meth.locks = false ∧ (M.1.name = "<init>" → meth.name = "<init>") ∧ va_K G.1 vwCl G.2 s ∧ d ≤ R.frames ∧ 40 * d + 40 ≤ R.locals
def mSt (G : mG) (M : mM) (s : State) (h : mH) (ls : List (Option Value)) (H : Heap) (locs : List Loc) (lsR : Array Slot) : Prop :=
  mHOk G s h H ∧ va_S (fun q => h.1 ≤ q) s.heap H locs ∧ h.1 ≤ s.heap.size ∧ lv_has lsR M.2.2.1 (lsL 0 ls)
/-- at a return instruction, with that answer on the stack -/
def mRet (M : mM) (pc : Nat) (v : Option Value) (st : List Value) : Prop :=
  (v = none ∧ st = [] ∧ decode M.2.1 pc = .ok (.return_, 1) ∧ M.2.2.2 = none) ∨
  (∃ (x : Int32) (ty : FieldType), v = some (.int x) ∧ st = [.int x] ∧ decode M.2.1 pc = .ok (.ireturn, 1) ∧ M.2.2.2 = some ty ∧ narrow ty (.int x) = .int x) ∨
  (∃ x : Int64, v = some (.long x) ∧ st = [.long x] ∧ decode M.2.1 pc = .ok (.lreturn, 1) ∧ M.2.2.2 = some .long) ∨
  (∃ (x : Value) (rt : FieldType), v = some x ∧ st = [x] ∧ decode M.2.1 pc = .ok (.areturn, 1) ∧ M.2.2.2 = some rt ∧ ((∃ n, rt = .object n) ∨ ∃ t, rt = .array t) ∧ (x = .null ∨ ∃ a, x = .ref a))
def EV (G : mG) (l : Launch) (d : Nat) (M : mM) (pc : Nat) (ls : List (Option Value)) (st : List Value) (h : mH) (v : Option Value) (h' : mH) : Prop :=
  (h.2.1 ≤ h'.2.1 ∧ h.2.2.1 ≤ h'.2.2.1 ∧ h.1 = h'.1) ∧
  ∀ (p : Program) (e : Env) (R : Room) (s : State) (m : MethodId) (args : Array Value) (below : List Frame) (meth : Method) (c : Code) (H : Heap) (locs : List Loc) (cells slots kC kS : Nat) (Q : State → Prop) (lsR : Array Slot),
    mCx G M d p R s m args meth c → mSt G M s h ls H locs lsR → kC ≤ R.cells → kS ≤ R.slots → cells + (h'.2.1 - h.2.1) = kC → slots + (h'.2.2.1 - h.2.2.1) = kS →
    (∀ (pcE : Nat) (stE : List Value) (lsE : Array Slot) (H' : Heap) (locs' : List Loc), mRet M pcE v stE → mHOk G s h' H' → va_S (fun q => h.1 ≤ q) s.heap H' locs' → W p l e R s m args below meth c H' locs' kC kS Q (F0 m pcE lsE stE)) →
    W p l e R s m args below meth c H locs cells slots Q (F0 m pc lsR st)
def RUN (G : mG) (l : Launch) (d : Nat) (M : mM) (pc : Nat) (ls : List (Option Value)) (st : List Value) (h : mH) (Q : Option Value → mH → Prop) : Prop := ∃ v h', EV G l d M pc ls st h v h' ∧ Q v h'
section MS
variable {G : mG} {l : Launch} {d : Nat} {M : mM} {pc pc2 : Nat} {ls ls2 : List (Option Value)} {st st2 : List Value} {h h2 : mH} {Q : Option Value → mH → Prop}
theorem RUN.step (f : ∀ v h', EV G l d M pc2 ls2 st2 h2 v h' → EV G l d M pc ls st h v h') (k : RUN G l d M pc2 ls2 st2 h2 Q) : RUN G l d M pc ls st h Q := by
  obtain ⟨v, h', a, b⟩ := k
  exact ⟨v, h', f v h' a, b⟩
theorem RUN.mono {Q' : Option Value → mH → Prop} (k : RUN G l d M pc ls st h Q) (f : ∀ v h', Q v h' → Q' v h') : RUN G l d M pc ls st h Q' := by
  obtain ⟨v, h', a, b⟩ := k
  exact ⟨v, h', a, f v h' b⟩
theorem RUN.deeper {d' : Nat} (hd : d ≤ d') (k : RUN G l d M pc ls st h Q) : RUN G l d' M pc ls st h Q := by
  obtain ⟨v, h', ⟨a, b⟩, q⟩ := k
  refine ⟨v, h', ⟨a, fun p e R s m args below meth c H locs cells slots kC kS Q lsR C => b p e R s m args below meth c H locs cells slots kC kS Q lsR ?_⟩, q⟩
  obtain ⟨c1, c2, c3, c4, c5, c6, c7, c8, c9, c10, c11⟩ := C
  exact ⟨c1, c2, c3, c4, c5, c6, c7, c8, c9, by omega, by omega⟩
/-- what moves neither heap nor locals -/
theorem r_pure (step : ∀ {p : Program} {e : Env} {R : Room} {s : State} {m : MethodId} {args : Array Value} {below : List Frame} {meth : Method} {c : Code} {H : Heap} {locs : List Loc} {cells slots : Nat} {Q : State → Prop} {lsR : Array Slot},
      p.tables.exec = Jvm.exec → c.code = M.2.1 → s.vm.findClass M.1.cls = some m.cls → (∀ w ∈ lw_use, w.before args s = true) → lv_has lsR M.2.2.1 (lsL 0 ls) → va_K G.1 vwCl G.2 s → mHOk G s h H →
      W p l e R s m args below meth c H locs cells slots Q (F0 m pc2 lsR st2) → W p l e R s m args below meth c H locs cells slots Q (F0 m pc lsR st))
    (k : RUN G l d M pc2 ls st2 h Q) : RUN G l d M pc ls st h Q := by
  refine RUN.step (fun v h' a => ⟨a.1, fun p e R s m args below meth c H locs cells slots kC kS Q lsR C S r1 r2 r3 r4 K => ?_⟩) k
  exact step C.1 C.2.1 C.2.2.2.2.1 C.2.2.2.2.2.1 S.2.2.2 C.2.2.2.2.2.2.2.2.1 S.1 (a.2 p e R s m args below meth c H locs cells slots kC kS Q lsR C S r1 r2 r3 r4 K)
/-- what moves the locals -/
theorem r_loc (step : ∀ {p : Program} {e : Env} {R : Room} {s : State} {m : MethodId} {args : Array Value} {below : List Frame} {meth : Method} {c : Code} {H : Heap} {locs : List Loc} {cells slots : Nat} {Q : State → Prop} {lsR : Array Slot},
      p.tables.exec = Jvm.exec → c.code = M.2.1 → lv_has lsR M.2.2.1 (lsL 0 ls) →
      (∀ ls' : Array Slot, lv_has ls' M.2.2.1 (lsL 0 ls2) → W p l e R s m args below meth c H locs cells slots Q (F0 m pc2 ls' st2)) → W p l e R s m args below meth c H locs cells slots Q (F0 m pc lsR st))
    (k : RUN G l d M pc2 ls2 st2 h Q) : RUN G l d M pc ls st h Q := by
  refine RUN.step (fun v h' a => ⟨a.1, fun p e R s m args below meth c H locs cells slots kC kS Q lsR C S r1 r2 r3 r4 K => ?_⟩) k
  exact step C.1 C.2.1 S.2.2.2 (fun ls' hl => a.2 p e R s m args below meth c H locs cells slots kC kS Q ls' C ⟨S.1, S.2.1, S.2.2.1, hl⟩ r1 r2 r3 r4 K)
/-- what writes one cell -/
theorem r_put {a : Nat} {o : mO} (hlo : h.1 ≤ a) (step : ∀ {p : Program} {e : Env} {R : Room} {s : State} {m : MethodId} {args : Array Value} {below : List Frame} {meth : Method} {c : Code} {H : Heap} {locs : List Loc} {cells slots : Nat} {Q : State → Prop} {lsR : Array Slot},
      mCx G M d p R s m args meth c → mHOk G s h H → lv_has lsR M.2.2.1 (lsL 0 ls) →
      (∀ (H1 : Heap) (locs1 : List Loc), (∀ x ∈ locs1, x ∈ locs ∨ x.base = a) → H1.size = H.size → (∀ q : Nat, q ≠ a → H1[q]? = H[q]?) → mAt G s h.1 a o H1 → W p l e R s m args below meth c H1 locs1 cells slots Q (F0 m pc2 lsR st2)) → W p l e R s m args below meth c H locs cells slots Q (F0 m pc lsR st))
    (k : RUN G l d M pc2 ls st2 (hPut h a o) Q) : RUN G l d M pc ls st h Q := by
  refine RUN.step (h2 := hPut h a o) (pc2 := pc2) (ls2 := ls) (st2 := st2) (fun v h' b => ⟨b.1, fun p e R s m args below meth c H locs cells slots kC kS Q lsR C S r1 r2 r3 r4 K => ?_⟩) k
  refine step C S.1 S.2.2.2 (fun H1 locs1 hloc z oq ha => b.2 p e R s m args below meth c H1 locs1 cells slots kC kS Q lsR C ⟨S.1.put z oq ha, ⟨by rw [z]; exact S.2.1.1, fun q h1 h2 => ?_, fun x hx => ?_⟩, S.2.2.1, S.2.2.2⟩ r1 r2 r3 r4 K)
  · rw [oq q (fun e => h2 (by rw [e]; exact hlo))]
    exact S.2.1.2.1 q h1 h2
  · rcases hloc x hx with g | g
    · exact S.2.1.2.2 x g
    · show h.1 ≤ x.base
      rw [g]; exact hlo
/-- what makes one cell -/
theorem r_new {n : Nat} {o : mO} (step : ∀ {p : Program} {e : Env} {R : Room} {s : State} {m : MethodId} {args : Array Value} {below : List Frame} {meth : Method} {c : Code} {H : Heap} {locs : List Loc} {cells slots : Nat} {Q : State → Prop} {lsR : Array Slot},
      mCx G M d p R s m args meth c → mHOk G s h H → lv_has lsR M.2.2.1 (lsL 0 ls) → cells + 1 ≤ R.cells → slots + n ≤ R.slots →
      (∀ (H1 : Heap), H1.size = H.size + 1 → (∀ q : Nat, q < H.size → H1[q]? = H[q]?) → mAt G s h.1 h.2.1 o H1 → W p l e R s m args below meth c H1 locs (cells + 1) (slots + n) Q (F0 m pc2 lsR st2)) → W p l e R s m args below meth c H locs cells slots Q (F0 m pc lsR st))
    (k : RUN G l d M pc2 ls st2 (hNew h n o) Q) : RUN G l d M pc ls st h Q := by
  refine RUN.step (h2 := hNew h n o) (pc2 := pc2) (ls2 := ls) (st2 := st2) (fun v h' b => ?_) k
  obtain ⟨⟨b1, b2, b3⟩, b4⟩ := b
  have b1 : h.2.1 + 1 ≤ h'.2.1 := b1
  have b2 : h.2.2.1 + n ≤ h'.2.2.1 := b2
  refine ⟨⟨by omega, by omega, b3⟩, fun p e R s m args below meth c H locs cells slots kC kS Q lsR C S r1 r2 r3 r4 K => ?_⟩
  refine step C S.1 S.2.2.2 (by omega) (by omega) (fun H1 z oq ha => b4 p e R s m args below meth c H1 locs (cells + 1) (slots + n) kC kS Q lsR C ⟨S.1.new z oq ha, ⟨Nat.le_trans S.2.1.1 (by omega), fun q h1 h2 => ?_, S.2.1.2.2⟩, S.2.2.1, S.2.2.2⟩ r1 r2 (by show cells + 1 + (h'.2.1 - (h.2.1 + 1)) = kC; omega) (by show slots + n + (h'.2.2.1 - (h.2.2.1 + n)) = kS; omega) K)
  rw [oq q (Nat.lt_of_lt_of_le h1 S.2.1.1)]
  exact S.2.1.2.1 q h1 h2
/-- the end -/
theorem r_end {v : Option Value} (hr : mRet M pc v st) (hq : Q v h) : RUN G l d M pc ls st h Q := by
  refine ⟨v, h, ⟨⟨Nat.le_refl _, Nat.le_refl _, rfl⟩, fun p e R s m args below meth c H locs cells slots kC kS Q lsR C S r1 r2 r3 r4 K => ?_⟩, hq⟩
  have e1 : cells = kC := by omega
  have e2 : slots = kS := by omega
  subst e1; subst e2
  exact K pc st lsR H locs hr S.1 S.2.1
end MS

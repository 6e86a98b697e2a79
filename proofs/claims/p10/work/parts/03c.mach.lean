/-! ===== instructions that read and write the heap ===== -/
def mClOk (r : vw_C) : Prop := (∀ w ∈ u_ws r.1 r.2.1 r.2.2, w ∈ lw_use) ∧ (∃ ty : Nat → FieldType, ∀ k, k < r.2.2 → parseFieldDescriptor (r.2.1 k).2.2.1 = some (ty k)) ∧ (∀ a, a < r.2.2 → ∀ b, b < r.2.2 → a ≠ b → (r.2.1 a).2.1 ≠ (r.2.1 b).2.1)
def mClOk0 (r : vw_C) : Prop := (∀ w ∈ u_ws r.1 r.2.1 r.2.2, w ∈ lw_tbl) ∧ ((u_ws r.1 r.2.1 r.2.2).all mWarm = true) ∧ (∃ ty : Nat → FieldType, ∀ k, k < r.2.2 → parseFieldDescriptor (r.2.1 k).2.2.1 = some (ty k)) ∧ (∀ a, a < r.2.2 → ∀ b, b < r.2.2 → a ≠ b → (r.2.1 a).2.1 ≠ (r.2.1 b).2.1)
theorem mCl_ok0 : ∀ r ∈ vwCl, mClOk0 r := List.forall_mem_cons.mpr ⟨⟨inX0, by decide +kernel, ⟨tyX0, tyX0_ok⟩, nmX0⟩, List.forall_mem_cons.mpr ⟨⟨inX1, by decide +kernel, ⟨tyX1, tyX1_ok⟩, nmX1⟩, List.forall_mem_cons.mpr ⟨⟨inX2, by decide +kernel, ⟨tyX2, tyX2_ok⟩, nmX2⟩, List.forall_mem_cons.mpr ⟨⟨inX3, by decide +kernel, ⟨tyX3, tyX3_ok⟩, nmX3⟩, List.forall_mem_cons.mpr ⟨⟨inX4, by decide +kernel, ⟨tyX4, tyX4_ok⟩, nmX4⟩, List.forall_mem_cons.mpr ⟨⟨inX5, by decide +kernel, ⟨tyX5, tyX5_ok⟩, nmX5⟩, List.forall_mem_cons.mpr ⟨⟨inX6, by decide +kernel, ⟨tyX6, tyX6_ok⟩, nmX6⟩, List.forall_mem_cons.mpr ⟨⟨inX7, by decide +kernel, ⟨tyX7, tyX7_ok⟩, nmX7⟩, List.forall_mem_cons.mpr ⟨⟨inX8, by decide +kernel, ⟨tyX8, tyX8_ok⟩, nmX8⟩, List.forall_mem_cons.mpr ⟨⟨inX9, by decide +kernel, ⟨tyX9, tyX9_ok⟩, nmX9⟩, List.forall_mem_cons.mpr ⟨⟨inX10, by decide +kernel, ⟨tyX10, tyX10_ok⟩, nmX10⟩, List.forall_mem_cons.mpr ⟨⟨inX11, by decide +kernel, ⟨tyX11, tyX11_ok⟩, nmX11⟩, fun _ h => absurd h List.not_mem_nil⟩⟩⟩⟩⟩⟩⟩⟩⟩⟩⟩⟩
theorem mCl_ok (r : vw_C) (h : r ∈ vwCl) : mClOk r := by
  obtain ⟨h1, h2, h3, h4⟩ := mCl_ok0 r h
  exact ⟨fun w hw => lw_use_in (h1 w hw) (List.all_eq_true.mp h2 w hw), h3, h4⟩
/-- a field's link, as the tables have it: of the class 'own' at 'index': field k of class number ci, of type ty, final or not -/
def mFld (own : String) (index ci k : Nat) (ty : FieldType) (fin : Bool) : Prop := ∃ r : vw_C, vwCl[ci]? = some r ∧ k < r.2.2 ∧ Cond.fieldLink own index (r.2.1 k).1 (r.2.1 k).2.1 (r.2.1 k).2.2.1 ∈ lw_use ∧ parseFieldDescriptor (r.2.1 k).2.2.1 = some ty ∧ (r.2.1 k).2.2.2 = fin
/-- a class that 'own' makes at 'index', with its fields' first values -/
def mNewC (own : String) (index ci N : Nat) (fs : List Value) : Prop := ∃ r : vw_C, vwCl[ci]? = some r ∧ r.2.2 = N ∧ Cond.classLink own index r.1 ∈ lw_use ∧ Cond.instantiable r.1 r.2.2 ∈ lw_use ∧ Cond.initialized r.1 ∈ lw_use ∧ ∃ ty : Nat → FieldType, (∀ k, k < r.2.2 → parseFieldDescriptor (r.2.1 k).2.2.1 = some (ty k)) ∧ ∀ j, j < r.2.2 → defaultValue (ty j) = vp_V fs j
section RH
variable {G : mG} {l : Launch} {d : Nat} {M : mM} {pc : Nat} {ls : List (Option Value)} {st : List Value} {h : mH} {Q : Option Value → mH → Prop}
theorem r_getf {index ci k : Nat} {ty : FieldType} {fin : Bool} {a : Nat} {fs : List Value} {v : Value} (hdg : decode M.2.1 pc = .ok (.getfield index, 3)) (hf : mFld M.1.cls index ci k ty fin) (ho : hGet h a = some (.inl (ci, fs))) (hv : fs[k]? = some v)
    (K : RUN G l d M (pc + 3) ls (v :: st) h Q) : RUN G l d M pc ls (.ref a :: st) h Q := by
  obtain ⟨⟨C, T, N⟩, hc, hk, hw, -, -⟩ := hf
  obtain ⟨c1, ⟨ty, c2⟩, c3⟩ := mCl_ok _ (List.mem_of_getElem? hc)
  refine r_pure (fun hx hb hown hts L hK hH w => ?_) K
  have hat : mAt G _ h.1 a (.inl (ci, fs)) _ := hH.2.2 a _ ho
  exact va_get (ws := [(a, .inr (ci, fs))]) hx hb hts c1 hown hK (fun k q hq => by
    cases k with
    | zero => cases hq; exact hat
    | succ k => simp at hq) 0 rfl hc k hk (hts _ hw) (fun _ h => h) hv hdg w
theorem m_putAt {s : State} {H1 : Heap} {a ci k : Nat} {fs : List Value} {v : Value} {C : String} {T : u_T} {N : Nat} {iS : Nat → Nat} {cell : Cell} (hc : vwCl[ci]? = some (C, T, N)) (hiS : iS = G.1.2 ci) (q2 : cell.cls = G.1.1 ci) (q3 : cell.vm = .none) (q4 : ∀ k, k < N → cell.slots[iS k]? = some (vp_V fs k))
    (hap : ∀ x y, x < N → y < N → x ≠ y → iS x ≠ iS y) (hk : k < N) (hl : k < fs.length) (e1 : H1[a]? = some (cell.setSlot (iS k) v)) : mAt G s h.1 a (.inl (ci, fs.set k v)) H1 := by
  subst hiS
  exact ⟨_, hc, t_OB.to (V := updV (vp_V fs) k v) ⟨_, e1, q2, q3, t_set q4 hap hk v⟩ (fun j _ => vp_updV_set hl v j)⟩
theorem r_putf {index ci k : Nat} {ty : FieldType} {a : Nat} {fs : List Value} {v : Value} (hdg : decode M.2.1 pc = .ok (.putfield index, 3)) (hf : mFld M.1.cls index ci k ty false) (ho : hGet h a = some (.inl (ci, fs))) (hlo : h.1 ≤ a) (hn : narrow ty v = v) (hfit : fits ty v = true) (hl : k < fs.length)
    (K : RUN G l d M (pc + 3) ls st (hPut h a (.inl (ci, fs.set k v))) Q) : RUN G l d M pc ls (v :: .ref a :: st) h Q := by
  obtain ⟨⟨C, T, N⟩, hc, hk, hw, hd, hfin⟩ := hf
  obtain ⟨hin, ⟨ty0, hty⟩, hnm⟩ := mCl_ok _ (List.mem_of_getElem? hc)
  refine r_put hlo (fun {p e R s m args below meth c H locs cells slots Q lsR} C0 hH L w => ?_) K
  obtain ⟨hx, hb, -, -, hown, hts, -, -, hK, -, -⟩ := C0
  have hat : mAt G s h.1 a (.inl (ci, fs)) H := hH.2.2 a _ ho
  have hap := va_apart (own := M.1.cls) hts hin ty0 hty hnm hK hc
  obtain ⟨r, h1, cell, q1, q2, q3, q4⟩ := hat
  have hr : r = (C, T, N) := Option.some.inj (h1.symm.trans hc)
  subst hr
  obtain ⟨hS, hfc, kC, hkC, hkind⟩ := hK.1 ci _ hc
  obtain ⟨cf, kf, fi, f, hi, hsl⟩ := hS k hk
  have hlay := hts _ (hin _ (u_in_lay hk))
  unfold u_lay at hlay
  rw [if_neg (by rw [hfin]; decide)] at hlay
  have hst := (u_facts hfc hkC (u_lays hts hin hk) hi).1
  have h6 := u_store hfc hkC hkind hlay hi hd hn hfit
  refine W.putK hx hb (f := f) ⟨hown, hts _ hw, ⟨_, _, _, hi⟩, hst⟩ (by rw [q2]; exact h6) q1 q3 (by rw [hsl]; exact k2_hasslot (q4 k hk)) rfl rfl hdg fun H' e1 e2 e3 => ?_
  rw [hsl] at e1 ⊢
  exact w H' _ (fun x hx => by
    rcases List.mem_append.mp hx with g | g
    · exact Or.inl g
    · rw [List.mem_singleton.mp g]; exact Or.inr rfl) e2 e3 (m_putAt hc rfl q2 q3 q4 hap hk hl e1)
theorem r_putF {index ci k : Nat} {ty : FieldType} {a : Nat} {fs : List Value} {v : Value} (hdg : decode M.2.1 pc = .ok (.putfield index, 3)) (hf : mFld M.1.cls index ci k ty true) (hdecl : ∃ r : vw_C, vwCl[ci]? = some r ∧ (r.2.1 k).1 = M.1.cls) (hini : M.1.name = "<init>") (ho : hGet h a = some (.inl (ci, fs))) (hlo : h.1 ≤ a) (hn : narrow ty v = v) (hfit : fits ty v = true) (hl : k < fs.length)
    (K : RUN G l d M (pc + 3) ls st (hPut h a (.inl (ci, fs.set k v))) Q) : RUN G l d M pc ls (v :: .ref a :: st) h Q := by
  obtain ⟨⟨C, T, N⟩, hc, hk, hw, hd, hfin⟩ := hf
  have hdecl : (T k).1 = M.1.cls := by
    obtain ⟨r, g1, g2⟩ := hdecl
    obtain rfl := Option.some.inj (g1.symm.trans hc)
    exact g2
  obtain ⟨hin, ⟨ty0, hty⟩, hnm⟩ := mCl_ok _ (List.mem_of_getElem? hc)
  refine r_put hlo (fun {p e R s m args below meth c H locs cells slots Q lsR} C0 hH L w => ?_) K
  obtain ⟨hx, hb, -, -, hown, hts, -, hname, hK, -, -⟩ := C0
  have hat : mAt G s h.1 a (.inl (ci, fs)) H := hH.2.2 a _ ho
  have hap := va_apart (own := M.1.cls) hts hin ty0 hty hnm hK hc
  obtain ⟨r, h1, cell, q1, q2, q3, q4⟩ := hat
  have hr : r = (C, T, N) := Option.some.inj (h1.symm.trans hc)
  subst hr
  obtain ⟨hS, hfc, kC, hkC, hkind⟩ := hK.1 ci _ hc
  obtain ⟨cf, kf, fi, f, hi, hsl⟩ := hS k hk
  have hlay := hts _ (hin _ (u_in_lay hk))
  unfold u_lay at hlay
  rw [if_pos hfin] at hlay
  have hst := (u_facts hfc hkC (u_lays hts hin hk) hi).1
  have hcf : m.cls = cf := by
    obtain ⟨_, _, c', _, _, _, -, -, hf', -, -, -, hown2, -⟩ := Cond.laysFinal_spec hlay
    have e1 : c' = cf := by have := hi.symm.trans hf'; simp at this; exact this.1.symm
    rw [hdecl] at hown2
    rw [← e1]; exact Option.some.inj (hown.symm.trans hown2)
  have h6 := u_fits hfc hkC hkind (Or.inr hlay) hi hd hn hfit
  refine W.putFinK hx hb hown (hts _ hw) hi hst hcf (hname hini) (by rw [q2]; exact h6) q1 q3 (by rw [hsl]; exact k2_hasslot (q4 k hk)) rfl rfl hdg fun H' e1 e2 e3 => ?_
  rw [hsl] at e1 ⊢
  exact w H' _ (fun x hx => by
    rcases List.mem_append.mp hx with g | g
    · exact Or.inl g
    · rw [List.mem_singleton.mp g]; exact Or.inr rfl) e2 e3 (m_putAt hc rfl q2 q3 q4 hap hk hl e1)
theorem m_tyOf {s : State} {t : Nat} {cA : ClassId} {ty : FieldType} (hK : va_K G.1 vwCl G.2 s) (ht : G.2[t]? = some (cA, ty)) : ArrOfT s cA ty ∧ va_RA s cA ty := hK.2 t _ ht
theorem r_iald {a n : Nat} {f : Nat → Int32} {i : Int32} (hdg : decode M.2.1 pc = .ok (.iaload, 1)) (ho : hGet h a = some (.inr (.inl (n, f)))) (hin : vp_in i n) (K : RUN G l d M (pc + 1) ls (.int (f i.toNatClampNeg) :: st) h Q) : RUN G l d M pc ls (.int i :: .ref a :: st) h Q := by
  refine r_pure (fun {p e R s m args below meth c H locs cells slots Q lsR} hx hb hown hts L hK hH w => ?_) K
  have hlt : i.toNatClampNeg < n := Nat.not_le.mp fun q => hin (Or.inr q)
  rcases hH.2.2 a _ ho with ⟨cA, h1, h2⟩ | ⟨h1, scr, h2, h3, h4, h5, h6⟩
  · exact W.iald (v := .int (f i.toNatClampNeg)) hx hb h2 ((m_tyOf hK h1).1 n (fun j => .int (f j))) (fun q => by cases q) (by show ¬ (i < 0 ∨ (arrV _ _ _).slots.size ≤ _); rw [arrV_size]; exact hin) (by show (arrV _ _ _).slots[_]? = _; rw [arrV_read _ _ hlt]) rfl rfl hdg w
  · exact W.iald (v := .int (f i.toNatClampNeg)) hx hb h2 h3 h4 (by rw [h5]; exact hin) (h6 _ hlt) rfl rfl hdg w
theorem r_alenI {a n : Nat} {f : Nat → Int32} (hdg : decode M.2.1 pc = .ok (.arraylength, 1)) (ho : hGet h a = some (.inr (.inl (n, f)))) (K : RUN G l d M (pc + 1) ls (.int (Int32.ofNat n) :: st) h Q) : RUN G l d M pc ls (.ref a :: st) h Q := by
  refine r_pure (fun {p e R s m args below meth c H locs cells slots Q lsR} hx hb hown hts L hK hH w => ?_) K
  rcases hH.2.2 a _ ho with ⟨cA, h1, h2⟩ | ⟨h1, scr, h2, h3, h4, h5, h6⟩
  · exact W.alen (n := Int32.ofNat n) hx hb h2 ((m_tyOf hK h1).1 n (fun j => .int (f j))) (by rw [vp_cell_i, arrV_size] <;> rfl) rfl rfl hdg w
  · exact W.alen (n := Int32.ofNat n) hx hb h2 h3 (by rw [h5] <;> rfl) rfl rfl hdg w
theorem r_alenR {a t n : Nat} {f : Nat → Option Nat} (hdg : decode M.2.1 pc = .ok (.arraylength, 1)) (ho : hGet h a = some (.inr (.inr (t, n, f)))) (K : RUN G l d M (pc + 1) ls (.int (Int32.ofNat n) :: st) h Q) : RUN G l d M pc ls (.ref a :: st) h Q := by
  refine r_pure (fun {p e R s m args below meth c H locs cells slots Q lsR} hx hb hown hts L hK hH w => ?_) K
  obtain ⟨cA, C, h1, h2⟩ := hH.2.2 a _ ho
  exact W.alen (n := Int32.ofNat n) hx hb h2 ((m_tyOf hK h1).1 n (fun j => va_rf (f j))) (by rw [vp_cell_q, arrV_size] <;> rfl) rfl rfl hdg w
theorem r_aald {a t n : Nat} {f : Nat → Option Nat} {i : Int32} (hdg : decode M.2.1 pc = .ok (.aaload, 1)) (ho : hGet h a = some (.inr (.inr (t, n, f)))) (hin : vp_in i n) (K : RUN G l d M (pc + 1) ls (va_rf (f i.toNatClampNeg) :: st) h Q) : RUN G l d M pc ls (.int i :: .ref a :: st) h Q := by
  refine r_pure (fun {p e R s m args below meth c H locs cells slots Q lsR} hx hb hown hts L hK hH w => ?_) K
  have hlt : i.toNatClampNeg < n := Nat.not_le.mp fun q => hin (Or.inr q)
  obtain ⟨cA, C, h1, h2⟩ := hH.2.2 a _ ho
  exact W.aald (v := va_rf (f i.toNatClampNeg)) (ty := .object C) hx hb h2 ((m_tyOf hK h1).1 n (fun j => va_rf (f j))) rfl (fun q => by cases q) (by show ¬ (i < 0 ∨ (arrV _ _ _).slots.size ≤ _); rw [arrV_size]; exact hin) (by show (arrV _ _ _).slots[_]? = _; rw [arrV_read _ _ hlt]) rfl rfl hdg w
theorem r_iast {a n : Nat} {f : Nat → Int32} {i x : Int32} (hdg : decode M.2.1 pc = .ok (.iastore, 1)) (ho : hGet h a = some (.inr (.inl (n, f)))) (hlo : h.1 ≤ a) (hin : vp_in i n) (K : RUN G l d M (pc + 1) ls st (hPut h a (.inr (.inl (n, upd f i.toNatClampNeg x)))) Q) : RUN G l d M pc ls (.int x :: .int i :: .ref a :: st) h Q := by
  refine r_put hlo (fun {p e R s m args below meth c H locs cells slots Q lsR} C0 hH L w => ?_) K
  obtain ⟨hx, hb, -, -, hown, hts, -, -, hK, -, -⟩ := C0
  rcases hH.2.2 a _ ho with ⟨cA, h1, h2⟩ | ⟨h1, -⟩
  · refine W.iast hx hb h2 ((m_tyOf hK h1).1 n (fun j => .int (f j))) (fun q => by cases q) (by show ¬ (i < 0 ∨ (arrV _ _ _).slots.size ≤ _); rw [arrV_size]; exact hin) rfl rfl hdg fun H1 e z oq => ?_
    refine w H1 _ (fun x hx => by
      rcases List.mem_append.mp hx with g | g
      · exact Or.inl g
      · rw [List.mem_singleton.mp g]; exact Or.inr rfl) z oq (Or.inl ⟨cA, h1, ?_⟩)
    rw [e, vp_cell_i, vp_cell_i, arrV_store]
    congr 2
    funext q
    by_cases hq : q = i.toNatClampNeg
    · subst hq
      simp [updV, upd]
    · simp [updV, upd, hq]
  · omega
theorem r_aast {a t n ci : Nat} {f : Nat → Option Nat} {i : Int32} {r : vw_C} {v : Nat} {vs : List Value} (hdg : decode M.2.1 pc = .ok (.aastore, 1)) (ho : hGet h a = some (.inr (.inr (t, n, f)))) (hov : hGet h v = some (.inl (ci, vs))) (hc : vwCl[ci]? = some r) (hG : G.2.map Prod.snd = mTy) (hty : mTy[t]? = some (.object r.1)) (hlo : h.1 ≤ a) (hin : vp_in i n)
    (K : RUN G l d M (pc + 1) ls st (hPut h a (.inr (.inr (t, n, va_up f i.toNatClampNeg (some v))))) Q) : RUN G l d M pc ls (.ref v :: .int i :: .ref a :: st) h Q := by
  refine r_put hlo (fun {p e R s m args below meth c H locs cells slots Q lsR} C0 hH L w => ?_) K
  obtain ⟨hx, hb, -, -, hown, hts, -, -, hK, -, -⟩ := C0
  obtain ⟨cA, C, h1, h2⟩ := hH.2.2 a _ ho
  have hCr : C = r.1 := by
    rw [← hG, List.getElem?_map, h1] at hty
    simpa using hty
  subst hCr
  have hlt : i.toNatClampNeg < n := Nat.not_le.mp fun q => hin (Or.inr q)
  have h0 : ¬ i < 0 := fun q => hin (Or.inl q)
  obtain ⟨r', hr', cellV, g1, g2, g3, -⟩ := hH.2.2 v _ hov
  have hcls := (hK.1 ci r hc).2
  obtain ⟨kA, comp, k1, k2, k3, -⟩ := (m_tyOf hK h1).2
  have hcomp : comp = G.1.1 ci := Option.some.inj (k3.symm.trans hcls.1)
  subst hcomp
  obtain ⟨kC, hkC, -⟩ := hcls.2
  refine W.aast hx hb h2 (fun q h => by cases h) (fun h => by cases h) k1 k2 rfl hkC ⟨h0, by show _ < (arrV _ _ _).slots.size; rw [arrV_size]; exact hlt⟩ g1 (fun q h => by rw [g3] at h; cases h) (by rw [g2]; exact hkC) (by rw [g2]; exact va_assign hcls) rfl rfl hdg fun H1 e z oq => ?_
  refine w H1 _ (fun x hx => by
      rcases List.mem_append.mp hx with g | g
      · exact Or.inl g
      · rw [List.mem_singleton.mp g]; exact Or.inr rfl) z oq ⟨cA, r.1, h1, ?_⟩
  rw [e]
  rw [vp_cell_q, vp_cell_q, arrV_store]
  congr 2
  funext q
  by_cases hq : q = i.toNatClampNeg
  · subst hq
    simp [updV, va_up, va_rf]
  · simp [updV, va_up, hq]
theorem m_ty0 {t : Nat} {ty : FieldType} (hG : G.2.map Prod.snd = mTy) (hty : mTy[t]? = some ty) : ∃ cA, G.2[t]? = some (cA, ty) := by
  rw [← hG, List.getElem?_map] at hty
  cases hg : G.2[t]? with
  | none => rw [hg] at hty; simp at hty
  | some q =>
    rw [hg] at hty
    obtain ⟨a, b⟩ := q
    simp at hty
    exact ⟨a, by rw [hty]⟩
theorem r_newaI {n : Int32} {N : Nat} (hdg : decode M.2.1 pc = .ok (.newarray .int, 2)) (hG : G.2.map Prod.snd = mTy) (hw : Cond.arrayClass .int ∈ lw_use) (hn : ¬ n < 0) (hN : n.toNatClampNeg = N) (hby : N * 4 ≤ 536870912)
    (K : RUN G l d M (pc + 2) ls (.ref h.2.1 :: st) (hNew h N (.inr (.inl (N, fun _ => 0)))) Q) : RUN G l d M pc ls (.int n :: st) h Q := by
  obtain ⟨cA0, h0⟩ := m_ty0 (G := G) (t := 0) hG rfl
  refine r_new (fun {p e R s m args below meth c H locs cells slots Q lsR} C0 hH L r1 r2 w => ?_) K
  obtain ⟨hx, hb, -, -, hown, hts, -, -, hK, -, -⟩ := C0
  refine va_newaK hx hb (atype := .int) (hts _ hw) rfl hdg rfl hn hN hby r1 r2 hH.1 fun H1 cA e1 z1 o1 hAr hNm => ?_
  refine w H1 (by rw [z1, hH.1]) (fun q hq => o1 q (by rw [← hH.1]; exact hq)) (Or.inl ⟨cA0, h0, ?_⟩)
  have hcc : cA = cA0 := Option.some.inj (hNm.symm.trans (m_tyOf hK h0).2)
  subst hcc
  exact e1
theorem r_newaR {n : Int32} {N index t : Nat} {C : String} (hdg : decode M.2.1 pc = .ok (.anewarray index, 3)) (hG : G.2.map Prod.snd = mTy) (hty : mTy[t]? = some (.object C)) (hw1 : Cond.classLink M.1.cls index C ∈ lw_use) (hw2 : Cond.arrayOver (.object C) ∈ lw_use) (hn : ¬ n < 0) (hN : n.toNatClampNeg = N) (hby : N * 4 ≤ 536870912)
    (K : RUN G l d M (pc + 3) ls (.ref h.2.1 :: st) (hNew h N (.inr (.inr (t, N, fun _ => none)))) Q) : RUN G l d M pc ls (.int n :: st) h Q := by
  obtain ⟨cA0, h0⟩ := m_ty0 (G := G) (t := t) hG hty
  subst hN
  refine r_new (fun {p e R s m args below meth c H locs cells slots Q lsR} C0 hH L r1 r2 w => ?_) K
  obtain ⟨hx, hb, -, -, hown, hts, -, -, hK, -, -⟩ := C0
  have hz := hH.1
  rw [← hz] at w
  refine W.anew hx hb hown (hts _ hw1) (hts _ hw2) rfl hdg rfl hn hby r1 r2 fun cA kA comp f1 f2 f3 f4 => ?_
  generalize hH1 : H.push ({ cls := cA, slots := Array.replicate n.toNatClampNeg .null, vm := .none } : Cell) = H1
  have z1 : H1.size = H.size + 1 := by rw [← hH1, Array.size_push]
  have e1 : H1[H.size]? = some (arrV cA n.toNatClampNeg (fun _ => .null)) := by rw [← hH1, Array.getElem?_push_size, ← arrV_new]
  have o1 : ∀ q : Nat, q < H.size → H1[q]? = H[q]? := fun q hq => by rw [← hH1, Array.getElem?_push, if_neg (Nat.ne_of_lt hq)]
  refine w H1 z1 o1 ⟨cA0, C, h0, ?_⟩
  obtain ⟨kA', comp', -, -, -, k4⟩ := (m_tyOf hK h0).2
  have hcc : cA = cA0 := Option.some.inj (f1.symm.trans k4)
  subst hcc
  rw [vp_cell_q]
  exact e1
theorem r_newC {index ci N : Nat} {fs : List Value} (hdg : decode M.2.1 pc = .ok (.new index, 3)) (hc : mNewC M.1.cls index ci N fs)
    (K : RUN G l d M (pc + 3) ls (.ref h.2.1 :: st) (hNew h N (.inl (ci, fs))) Q) : RUN G l d M pc ls st h Q := by
  obtain ⟨⟨C, T, N'⟩, hc, rfl, hw1, hw2, hw3, ty, hty, hfs⟩ := hc
  obtain ⟨hin, -, -⟩ := mCl_ok _ (List.mem_of_getElem? hc)
  refine r_new (fun {p e R s m args below meth c H locs cells slots Q lsR} C0 hH L r1 r2 w => ?_) K
  obtain ⟨hx, hb, -, -, hown, hts, -, -, hK, -, -⟩ := C0
  have hKn := hK.1 ci _ hc
  refine W.newcK hx hb hown (hts _ hw1) (hts _ hw2) (hts _ hw3) rfl hdg r1 r2 hKn.2.1 hH.1 fun H1 kC hkC e1 z1 o1 => ?_
  exact w H1 (by rw [z1, hH.1]) (fun q hq => o1 q (by rw [← hH.1]; exact hq)) ⟨_, hc, (u_born ty hts hin hKn hkC e1 hty).to hfs⟩
end RH

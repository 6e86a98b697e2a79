/-! ===== what the Statement gives of the start: statics, String constants, private selections (by program) ===== -/
abbrev nwF : List Cond := flatC (Jvm.Cond.and given_1 narrow_1)
def kPl : List Nat := [263, 267, 276, 283, 291, 300, 310, 321, 338, 359, 373, 388, 404, 421, 441, 462]
abbrev kTm (k : Nat) : Term := .string "ScopeWardenLaw" (kIdx k)
abbrev kVal (k : Nat) : Term := .field (kTm k) "java/lang/String" "value" "[B"
abbrev kDg (k : Nat) : Term := .static "java/lang/Integer" (if k = 16 then "DigitOnes" else "DigitTens") "[B"
theorem kp_ex : ∀ k, k < 16 → nwF[kPl.getD k 0]? = some (Cond.exactly (kTm k) "java/lang/String") := by decide +kernel
theorem kp_co : ∀ k, k < 16 → nwF[kPl.getD k 0 + 1]? = some (Cond.eq (.field (kTm k) "java/lang/String" "coder" "B") (.int 0)) := by decide +kernel
theorem kp_ar : ∀ k, k < 16 → nwF[kPl.getD k 0 + 2]? = some (Cond.arrayOf (kVal k) .byte) := by decide +kernel
theorem kp_le : ∀ k, k < 16 → nwF[kPl.getD k 0 + 3]? = some (Cond.eq (.length (kVal k)) (.int (Int32.ofNat (kByt k).length))) := by decide +kernel
theorem kp_el : ∀ k, k < 16 → ∀ j, j < (kByt k).length → nwF[kPl.getD k 0 + 4 + j]? = some (Cond.eq (.elem (kVal k) (.int (Int32.ofNat j))) (.int ((kByt k).getD j 0))) := by decide +kernel
theorem kp_ar16 : nwF[10]? = some (Cond.arrayOf (kDg 16) .byte) := by decide +kernel
theorem kp_le16 : nwF[11]? = some (Cond.eq (.length (kDg 16)) (.int (Int32.ofNat (kByt 16).length))) := by decide +kernel
theorem kp_el16 : ∀ j, j < (kByt 16).length → nwF[12 + j]? = some (Cond.eq (.elem (kDg 16) (.int (Int32.ofNat j))) (.int ((kByt 16).getD j 0))) := by decide +kernel
theorem kp_ar17 : nwF[113]? = some (Cond.arrayOf (kDg 17) .byte) := by decide +kernel
theorem kp_le17 : nwF[114]? = some (Cond.eq (.length (kDg 17)) (.int (Int32.ofNat (kByt 17).length))) := by decide +kernel
theorem kp_el17 : ∀ j, j < (kByt 17).length → nwF[115 + j]? = some (Cond.eq (.elem (kDg 17) (.int (Int32.ofNat j))) (.int ((kByt 17).getD j 0))) := by decide +kernel
theorem kp_cs : nwF[4]? = some (Cond.eq (.static "java/lang/String" "COMPACT_STRINGS" "Z") (.int 1)) := by decide +kernel
theorem kp_si : nwF[5]? = some (Cond.isRef (.static "jdk/internal/util/Preconditions" "SIOOBE_FORMATTER" "Ljava/util/function/BiFunction;")) := by decide +kernel
theorem kp_sr : ∀ k, k < 16 → Cond.stringRef "ScopeWardenLaw" (kIdx k) (kTxt k) ∈ lw_tbl := by decide +kernel
theorem m_privs_ok : ∀ y ∈ m_privs, y.cls = "java/lang/AbstractStringBuilder" ∧ Cond.privateMethod y ∈ lw_tbl ∧ Cond.instanceMethod y ∈ lw_tbl := by decide +kernel
/-- a private method of a superclass is selected by an object of the subclass -/
theorem m_selSub {y y0 : MethodName} {D : String} {s : State} {args : Array Value} {n : Nat} (hy : y.cls ≠ "java/lang/invoke/MethodHandle" ∧ y.cls ≠ "java/lang/invoke/VarHandle") (h0 : (Cond.selects D y0 y0).before args s = true) (hcc : y0.cls = y.cls)
    (hins : (Cond.instantiable D n).before args s = true) (hpriv : (Cond.privateMethod y).before args s = true) (hinst : (Cond.instanceMethod y).before args s = true) : (Cond.selects D y y).before args s = true := by
  obtain ⟨c, k, hc, hk, -, -, -, -⟩ := Cond.instantiable_spec hins
  obtain ⟨mk, methM, hnamed, hmethM, -, -⟩ := Cond.instanceMethod_spec hinst
  have hfound : s.methodFound? y.cls y.name y.desc = some mk := State.methodFound?_of_named hnamed hy
  have hsel : selectMethod {} s.vm c mk = .method mk := selectMethod_private hmethM (Cond.privateMethod_at hpriv mk methM hnamed hmethM)
  obtain ⟨c0, r0, m0, -, -, a3, -, k0, a5, a6⟩ := Cond.selects_spec h0
  have hcls : m0.cls = mk.cls := Option.some.inj ((findClass_of_methodNamed a3).symm.trans ((congrArg s.vm.findClass hcc).trans (findClass_of_methodNamed hnamed)))
  rw [hcls] at a5
  simp only [Cond.before, Cond.holds, Cond.value, hc, hfound, hnamed, hsel, a5]
  simp [a6]
theorem m_htx {s : State} {args : Array Value} (hts : ∀ w ∈ lw_tbl, w.before args s = true) : ∀ w ∈ lw_tblx, w.before args s = true := by
  intro w hw
  rcases List.mem_append.mp hw with hw | hw
  · exact hts w hw
  · obtain ⟨y, hy, rfl⟩ := List.mem_map.mp hw
    obtain ⟨y1, y2, y3⟩ := m_privs_ok y hy
    exact m_selSub (n := 4) (y0 := yJ5_isLatin1_aae02) ⟨by rw [y1]; decide, by rw [y1]; decide⟩ (hts _ (by decide +kernel)) y1.symm (hts _ (by decide +kernel)) (hts _ y2) (hts _ y3)
theorem m_kone {args : Array Value} {s : State} {A : Nat → Prop} (hs : ∀ c ∈ nwF, c.before args s = true) (hA : ∀ a : Nat, a < s.heap.size → ¬ A a) (k : Nat) (hk : k < 16) :
    ∃ q : Nat × Nat, (kTm k).eval args s none [] s = some (.ref q.1) ∧ va_O "java/lang/String" q.1 A s s.heap ∧ va_OF "java/lang/String" "coder" "B" (.int 0) q.1 A s s.heap ∧ va_OF "java/lang/String" "value" "[B" (.ref q.2) q.1 A s s.heap ∧ va_T .byte q.2 (kByt k).length (fun j => .int ((kByt k).getD j 0)) A s s.heap := by
  have hN : (kByt k).length < 2 ^ 31 := Nat.lt_of_le_of_lt (kByt_l k (by omega)) (by decide)
  obtain ⟨a, c, cA, kA, q1, q2, q3, q4, q5, q6, -⟩ := Cond.exactly_spec (args := args) (first := s) (o := none) (s := s) (idx := []) (t := kTm k) (cls := "java/lang/String") (hs _ (List.mem_of_getElem? (kp_ex k hk)))
  obtain ⟨t, ht, hT⟩ := va_Tof (f := fun j => .int ((kByt k).getD j 0)) (A := A) hN (hs _ (List.mem_of_getElem? (kp_ar k hk))) (va_eqt (hs _ (List.mem_of_getElem? (kp_le k hk)))) (fun j hj => va_eqt (hs _ (List.mem_of_getElem? (kp_el k hk j hj)))) hA
  exact ⟨(a, t), q1, ⟨cA, q3, q5, by rw [q6]; exact q2, hA a (Array.getElem?_eq_some_iff.mp q3).1⟩, vk_OFof q1 (va_eqt (hs _ (List.mem_of_getElem? (kp_co k hk)))) hA, vk_OFof q1 ht hA, hT⟩
theorem m_kdg16 {args : Array Value} {s : State} {A : Nat → Prop} (hs : ∀ c ∈ nwF, c.before args s = true) (hts : ∀ w ∈ lw_tbl, w.before args s = true) (hA : ∀ a : Nat, a < s.heap.size → ¬ A a) : ∃ t : Nat, va_Z "java/lang/Integer" "DigitOnes" "[B" (.ref t) A s s.heap ∧ va_T .byte t (kByt 16).length (fun j => .int ((kByt 16).getD j 0)) A s s.heap := by
  obtain ⟨t, ht, hT⟩ := va_Tof (f := fun j => .int ((kByt 16).getD j 0)) (A := A) (Nat.lt_of_le_of_lt (kByt_l 16 (by omega)) (by decide)) (hs _ (List.mem_of_getElem? kp_ar16)) (va_eqt (hs _ (List.mem_of_getElem? kp_le16))) (fun j hj => va_eqt (hs _ (List.mem_of_getElem? (kp_el16 j hj)))) hA
  exact ⟨t, va_Zref (hts _ (by decide +kernel)) (hts _ (by decide +kernel)) ht hA, hT⟩
theorem m_kdg17 {args : Array Value} {s : State} {A : Nat → Prop} (hs : ∀ c ∈ nwF, c.before args s = true) (hts : ∀ w ∈ lw_tbl, w.before args s = true) (hA : ∀ a : Nat, a < s.heap.size → ¬ A a) : ∃ t : Nat, va_Z "java/lang/Integer" "DigitTens" "[B" (.ref t) A s s.heap ∧ va_T .byte t (kByt 17).length (fun j => .int ((kByt 17).getD j 0)) A s s.heap := by
  obtain ⟨t, ht, hT⟩ := va_Tof (f := fun j => .int ((kByt 17).getD j 0)) (A := A) (Nat.lt_of_le_of_lt (kByt_l 17 (by omega)) (by decide)) (hs _ (List.mem_of_getElem? kp_ar17)) (va_eqt (hs _ (List.mem_of_getElem? kp_le17))) (fun j hj => va_eqt (hs _ (List.mem_of_getElem? (kp_el17 j hj)))) hA
  exact ⟨t, va_Zref (hts _ (by decide +kernel)) (hts _ (by decide +kernel)) ht hA, hT⟩
theorem m_arrR {args : Array Value} {s : State} {C : String} (h : (Cond.arrayOver (.object C)).before args s = true) : ∃ cA : ClassId, ArrOfT s cA (.object C) ∧ va_RA s cA (.object C) := by
  obtain ⟨comp, c, k, h1, -, h3, h4, h5⟩ := Cond.arrayOver_spec h
  exact ⟨c, fun n z => ⟨fun q h => (by cases h), k, h3, comp, h4⟩, k, comp, h3, h4, h1, h5⟩
theorem m_arrI {args : Array Value} {s : State} (h : (Cond.arrayClass .int).before args s = true) : ∃ cA : ClassId, ArrOfT s cA .int ∧ va_RA s cA .int := by
  obtain ⟨c, k, comp, h1, h2, h3⟩ := Cond.arrayClass_spec h
  exact ⟨c, fun n z => ⟨fun q h => (by cases h), k, h2, comp, h3⟩, h1⟩
theorem m_arrB {args : Array Value} {s : State} (h : (Cond.arrayClass .byte).before args s = true) : ∃ cA : ClassId, ArrOfT s cA .byte ∧ va_RA s cA .byte := by
  obtain ⟨c, k, comp, h1, h2, h3⟩ := Cond.arrayClass_spec h
  exact ⟨c, fun n z => ⟨fun q h => (by cases h), k, h2, comp, h3⟩, h1⟩
theorem m_world {args : Array Value} {s : State} (hts : ∀ w ∈ lw_tbl, w.before args s = true) (kA kV : Nat → Nat) (sS : Option Nat) : ∃ G : mG, G.2.map Prod.snd = mTy ∧ va_K G.1 vwCl G.2 s ∧ (∀ k, k < 200 → kkA G k = kA k) ∧ (∀ k, kkV G k = kV k) ∧ kkS G = sS := by
  obtain ⟨c0, i0, k0⟩ := u_known (C := RX0) (T := TX0) (N := 4) (n := 4) hts inX0 (hts (.instantiable RX0 4) (by decide +kernel))
  obtain ⟨c1, i1, k1⟩ := u_known (C := RX1) (T := TX1) (N := 2) (n := 2) hts inX1 (hts (.instantiable RX1 2) (by decide +kernel))
  obtain ⟨c2, i2, k2⟩ := u_known (C := RX2) (T := TX2) (N := 4) (n := 4) hts inX2 (hts (.instantiable RX2 4) (by decide +kernel))
  obtain ⟨c3, i3, k3⟩ := u_known (C := RX3) (T := TX3) (N := 3) (n := 3) hts inX3 (hts (.instantiable RX3 3) (by decide +kernel))
  obtain ⟨c4, i4, k4⟩ := u_known (C := RX4) (T := TX4) (N := 3) (n := 3) hts inX4 (hts (.instantiable RX4 3) (by decide +kernel))
  obtain ⟨c5, i5, k5⟩ := u_known (C := RX5) (T := TX5) (N := 1) (n := 1) hts inX5 (hts (.instantiable RX5 1) (by decide +kernel))
  obtain ⟨c6, i6, k6⟩ := u_known (C := RX6) (T := TX6) (N := 6) (n := 6) hts inX6 (hts (.instantiable RX6 6) (by decide +kernel))
  obtain ⟨c7, i7, k7⟩ := u_known (C := RX7) (T := TX7) (N := 11) (n := 11) hts inX7 (hts (.instantiable RX7 11) (by decide +kernel))
  obtain ⟨c8, i8, k8⟩ := u_known (C := RX8) (T := TX8) (N := 6) (n := 6) hts inX8 (hts (.instantiable RX8 6) (by decide +kernel))
  obtain ⟨c9, i9, k9⟩ := u_known (C := RX9) (T := TX9) (N := 11) (n := 11) hts inX9 (hts (.instantiable RX9 11) (by decide +kernel))
  obtain ⟨c10, i10, k10⟩ := u_known (C := RX10) (T := TX10) (N := 9) (n := 9) hts inX10 (hts (.instantiable RX10 9) (by decide +kernel))
  obtain ⟨c11, i11, k11⟩ := u_known (C := RJ0) (T := TJ0) (N := 4) (n := 4) hts inJ0 (hts (.instantiable RJ0 4) (by decide +kernel))
  obtain ⟨c12, i12, k12⟩ := u_known (C := RJ4) (T := TJ4) (N := 4) (n := 4) hts inJ4 (hts (.instantiable RJ4 4) (by decide +kernel))
  obtain ⟨aI, aI1, aI2⟩ := m_arrI (hts (.arrayClass .int) (by decide +kernel))
  obtain ⟨a1, a11, a12⟩ := m_arrR (hts (.arrayOver (.object "ScopeWarden$Ints")) (by decide +kernel))
  obtain ⟨a2, a21, a22⟩ := m_arrR (hts (.arrayOver (.object "ScopeWarden$Thing")) (by decide +kernel))
  obtain ⟨a3, a31, a32⟩ := m_arrR (hts (.arrayOver (.object "ScopeWarden$Scope")) (by decide +kernel))
  obtain ⟨a4, a41, a42⟩ := m_arrR (hts (.arrayOver (.object "ScopeWarden$Task")) (by decide +kernel))
  obtain ⟨aB, aB1, aB2⟩ := m_arrB (hts (.arrayClass .byte) (by decide +kernel))
  refine ⟨((fun k => if k = 0 then c0 else if k = 1 then c1 else if k = 2 then c2 else if k = 3 then c3 else if k = 4 then c4 else if k = 5 then c5 else if k = 6 then c6 else if k = 7 then c7 else if k = 8 then c8 else if k = 9 then c9 else if k = 10 then c10 else if k = 11 then c11 else c12, fun k => if k = 0 then i0 else if k = 1 then i1 else if k = 2 then i2 else if k = 3 then i3 else if k = 4 then i4 else if k = 5 then i5 else if k = 6 then i6 else if k = 7 then i7 else if k = 8 then i8 else if k = 9 then i9 else if k = 10 then i10 else if k = 11 then i11 else if k = 12 then i12 else if k = 1000 then (fun q => if q < 200 then kA q else kV (q - 200)) else (fun q => if q = 0 then (match sS with | none => 0 | some _ => 1) else sS.getD 0)), [(aI, .int), (a1, .object "ScopeWarden$Ints"), (a2, .object "ScopeWarden$Thing"), (a3, .object "ScopeWarden$Scope"), (a4, .object "ScopeWarden$Task"), (aB, .byte)]), rfl, ⟨fun k q hq => ?_, fun k q hq => ?_⟩, fun k hk => ?_, fun k => ?_, ?_⟩
  · match k, hq with
    | 0, hq => cases hq; exact k0
    | 1, hq => cases hq; exact k1
    | 2, hq => cases hq; exact k2
    | 3, hq => cases hq; exact k3
    | 4, hq => cases hq; exact k4
    | 5, hq => cases hq; exact k5
    | 6, hq => cases hq; exact k6
    | 7, hq => cases hq; exact k7
    | 8, hq => cases hq; exact k8
    | 9, hq => cases hq; exact k9
    | 10, hq => cases hq; exact k10
    | 11, hq => cases hq; exact k11
    | 12, hq => cases hq; exact k12
    | k + 13, hq => simp at hq
  · match k, hq with
    | 0, hq => cases hq; exact ⟨aI1, aI2⟩
    | 1, hq => cases hq; exact ⟨a11, a12⟩
    | 2, hq => cases hq; exact ⟨a21, a22⟩
    | 3, hq => cases hq; exact ⟨a31, a32⟩
    | 4, hq => cases hq; exact ⟨a41, a42⟩
    | 5, hq => cases hq; exact ⟨aB1, aB2⟩
    | k + 6, hq => simp at hq
  · show (if k < 200 then kA k else kV (k - 200)) = kA k
    rw [if_pos hk]
  · show (if 200 + k < 200 then kA (200 + k) else kV (200 + k - 200)) = kV k
    rw [if_neg (by omega), Nat.add_sub_cancel_left]
  · cases sS <;> rfl
/-- the world at the law's entry -/
theorem m_start {b : Nat} {s : State} (hts : ∀ w ∈ lw_tbl, w.before #[.ref b] s = true) (hgv : (Jvm.Cond.and given_1 narrow_1).before #[.ref b] s = true) : ∃ G : mG, G.2.map Prod.snd = mTy ∧ mKK G s ∧ mStt G s (fun q => s.heap.size ≤ q) s.heap := by
  have hs := flat_of_before _ hgv
  have hA : ∀ a : Nat, a < s.heap.size → ¬ s.heap.size ≤ a := fun a h => Nat.not_le.mpr h
  have h0 : ∀ k : Nat, ∃ q : Nat × Nat, k < 16 → (kTm k).eval #[.ref b] s none [] s = some (.ref q.1) ∧ va_O "java/lang/String" q.1 (fun q => s.heap.size ≤ q) s s.heap ∧ va_OF "java/lang/String" "coder" "B" (.int 0) q.1 (fun q => s.heap.size ≤ q) s s.heap ∧ va_OF "java/lang/String" "value" "[B" (.ref q.2) q.1 (fun q => s.heap.size ≤ q) s s.heap ∧ va_T .byte q.2 (kByt k).length (fun j => .int ((kByt k).getD j 0)) (fun q => s.heap.size ≤ q) s s.heap := by
    intro k
    by_cases hk : k < 16
    · obtain ⟨q, hq⟩ := m_kone hs hA k hk
      exact ⟨q, fun _ => hq⟩
    · exact ⟨(0, 0), fun h => absurd h hk⟩
  obtain ⟨ad, had⟩ := Classical.axiomOfChoice h0
  obtain ⟨t16, z16, d16⟩ := m_kdg16 hs hts hA
  obtain ⟨t17, z17, d17⟩ := m_kdg17 hs hts hA
  have zc : va_Z "java/lang/String" "COMPACT_STRINGS" "Z" (.int 1) (fun q => s.heap.size ≤ q) s s.heap := va_Zof (hts _ (by decide +kernel)) (hts _ (by decide +kernel)) (va_eqi (hs _ (List.mem_of_getElem? kp_cs))) hA
  obtain ⟨sS, zs⟩ : ∃ sS : Option Nat, va_Z "jdk/internal/util/Preconditions" "SIOOBE_FORMATTER" "Ljava/util/function/BiFunction;" (va_rf sS) (fun q => s.heap.size ≤ q) s s.heap := by
    rcases va_Zqof (A := fun q => s.heap.size ≤ q) (hts _ (by decide +kernel)) (hts _ (by decide +kernel)) (hs _ (List.mem_of_getElem? kp_si)) hA with h | ⟨t, h⟩
    · exact ⟨none, h⟩
    · exact ⟨some t, h⟩
  obtain ⟨G, hG, hK, eA, eV, eS⟩ := m_world hts (fun k => (ad k).1) (fun k => if k = 16 then t16 else if k = 17 then t17 else (ad k).2) sS
  have eV' : ∀ k, k < 16 → kkV G k = (ad k).2 := fun k hk => by
    rw [eV, if_neg (by omega), if_neg (by omega)]
  have eV16 : kkV G 16 = t16 := by rw [eV, if_pos rfl]
  have eV17 : kkV G 17 = t17 := by rw [eV, if_neg (by decide), if_pos rfl]
  refine ⟨G, hG, ⟨hK, fun k hk => ?_, va_Nw.of rfl (hts (.castable "[B" "java/lang/Cloneable") (by decide +kernel))⟩, ⟨zc, by rw [eS]; exact zs, by rw [eV16]; exact z16, by rw [eV17]; exact z17⟩, fun k hk => ?_, fun k hk => ?_⟩
  · rw [eA k (by omega)]
    exact vk_R.of (hts _ (kp_sr k hk)) (had k hk).1
  · rw [eA k (by omega), eV' k hk]
    exact ⟨(had k hk).2.1, (had k hk).2.2.1, (had k hk).2.2.2.1⟩
  · by_cases h16 : k = 16
    · subst h16; rw [eV16]; exact d16
    · by_cases h17 : k = 17
      · subst h17; rw [eV17]; exact d17
      · rw [eV' k (by omega)]
        exact (had k (by omega)).2.2.2.2

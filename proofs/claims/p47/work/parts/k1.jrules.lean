/-! ===== bytes and texts as whole numbers ===== -/
noncomputable def bJ (t : List Int) : List Int32 := t.map J
theorem bJ_l {t : List Int} : (bJ t).length = t.length := by simp [bJ]
theorem bJ_getD {t : List Int} {j : Nat} : (bJ t).getD j 0 = J (t.getD j 0) := by
  rw [bJ, J_0, List.getD_eq_getElem?_getD, List.getD_eq_getElem?_getD, List.getElem?_map]
  cases t[j]? <;> rfl
theorem bJ_rep (n : Nat) : List.replicate n (0 : Int32) = bJ (List.replicate n 0) := by rw [bJ, List.map_replicate, J_0]
theorem bJ_set {t : List Int} {i : Nat} {c : Int} : (bJ t).set i (J c) = bJ (t.set i c) := by rw [bJ, bJ, List.map_set]
/-- n of one row from sp on in another from dp on -/
def cpT (a b : List Int) (sp dp n : Nat) : List Int := (List.range b.length).map (va_cpy (fun j => a.getD j 0) (fun j => b.getD j 0) sp dp n)
theorem cpT_l {a b : List Int} {sp dp n : Nat} : (cpT a b sp dp n).length = b.length := by simp [cpT]
theorem cpT_get {a b : List Int} {sp dp n j : Nat} (h : j < b.length) : (cpT a b sp dp n)[j]? = some (va_cpy (fun j => a.getD j 0) (fun j => b.getD j 0) sp dp n j) := by simp [cpT, h]
theorem bJ_cp {a b : List Int} {sp dp n : Nat} : cpB (bJ a) (bJ b) sp dp n = bJ (cpT a b sp dp n) := by
  rw [cpB, cpT, bJ_l]
  conv => rhs; rw [bJ, List.map_map]
  congr 1
  funext j
  show va_cpy _ _ _ _ _ _ = J (va_cpy _ _ _ _ _ _)
  unfold va_cpy
  split
  · exact bJ_getD
  · exact bJ_getD
def tOk (t : List Int) : Prop := ∀ c ∈ t, 0 ≤ c ∧ c ≤ 127
theorem tOk_D {t : List Int} (h : tOk t) (j : Nat) : 0 ≤ t.getD j 0 ∧ t.getD j 0 ≤ 127 := by
  rw [List.getD_eq_getElem?_getD]
  cases e : t[j]? with
  | none => exact ⟨Int.le_refl _, by decide⟩
  | some c => exact h c (List.mem_of_getElem? e)
theorem byte_c {c : Int} (h : 0 ≤ c ∧ c ≤ 127) : (J c).toInt8.toInt32 = J c ∧ fits .byte (.int (J c)) = true ∧ (J c &&& J 255 = J c) ∧ ((J c).toUInt32 % 65536).toInt32 = J c ∧ narrow .char (.int (J c)) = .int (J c) := by
  obtain ⟨n, rfl⟩ : ∃ n : Nat, c = n := ⟨c.toNat, by omega⟩
  have z : ∀ k : Fin 128, (Int32.ofInt ((k.val : Nat) : Int)).toInt8.toInt32 = Int32.ofInt ((k.val : Nat) : Int) ∧ fits .byte (.int (Int32.ofInt ((k.val : Nat) : Int))) = true ∧ (Int32.ofInt ((k.val : Nat) : Int) &&& Int32.ofInt 255 = Int32.ofInt ((k.val : Nat) : Int)) ∧ ((Int32.ofInt ((k.val : Nat) : Int)).toUInt32 % 65536).toInt32 = Int32.ofInt ((k.val : Nat) : Int) ∧ narrow .char (.int (Int32.ofInt ((k.val : Nat) : Int))) = .int (Int32.ofInt ((k.val : Nat) : Int)) := by decide +kernel
  rw [J_def, J_def]
  exact z ⟨n, by omega⟩
theorem nar_b0 : narrow .byte (.int (J 0)) = .int (J 0) := by rw [← J_0]; decide +kernel
section RJB
variable {G : mG} {l : Launch} {d : Nat} {M : mM} {pc : Nat} {ls : List (Option Value)} {st : List Value} {h : mH} {Q : Option Value → mH → Prop}
theorem rj_bald {a : Nat} {i : Int} {t : List Int} (hdg : decode M.2.1 pc = .ok (.baload, 1)) (ho : isBy G h a (bJ t)) (h0 : 0 ≤ i ∧ i < t.length) (hr : InR i) (K : RUN G l d M (pc + 1) ls (.int (J (t.getD i.toNat 0)) :: st) h Q) : RUN G l d M pc ls (.int (J i) :: .ref a :: st) h Q :=
  r_bald hdg ho (by rw [bJ_l]; exact J_in hr h0.1 h0.2) (by rw [J_cl h0.1 hr, bJ_getD]; exact K)
theorem rj_bast {a : Nat} {i c : Int} {t : List Int} (hdg : decode M.2.1 pc = .ok (.bastore, 1)) (ho : hGet h a = some (byt (bJ t))) (hlo : h.1 ≤ a) (h0 : 0 ≤ i ∧ i < t.length) (hr : InR i) (hc : 0 ≤ c ∧ c ≤ 127) (K : RUN G l d M (pc + 1) ls st (hPut h a (byt (bJ (t.set i.toNat c)))) Q) : RUN G l d M pc ls (.int (J c) :: .int (J i) :: .ref a :: st) h Q :=
  r_bast hdg ho hlo (by rw [bJ_l]; exact J_in hr h0.1 h0.2) (byte_c hc).1 (byte_c hc).2.1 (by rw [J_cl h0.1 hr, bJ_set]; exact K)
theorem rj_newaB {N : Nat} (hdg : decode M.2.1 pc = .ok (.newarray .byte, 2)) (hG : G.2.map Prod.snd = mTy) (hN : N ≤ 1000) (K : RUN G l d M (pc + 2) ls (.ref h.2.1 :: st) (hNew h N (byt (bJ (List.replicate N 0)))) Q) : RUN G l d M pc ls (.int (J (N : Int)) :: st) h Q :=
  r_newaB hdg hG w_byte (by rw [J_0, J_lt (by constructor <;> omega) (by decide)]; all_goals omega) (by rw [J_cl (by omega) (by constructor <;> omega)]; all_goals omega) (by omega) (by rw [bJ_rep]; exact K)
theorem rj_copyB {index a0 a : Nat} {t0 t1 : List Int} {sp dp n : Nat} (hdg : decode M.2.1 pc = .ok (.invokestatic index, 3)) (hw : Cond.methodLink M.1.cls index arraycopyName ∈ lw_use) (ho0 : isBy G h a0 (bJ t0)) (ho1 : hGet h a = some (byt (bJ t1))) (hlo : h.1 ≤ a) (h4 : sp + n ≤ t0.length) (h5 : dp + n ≤ t1.length) (hz : t0.length ≤ 1000 ∧ t1.length ≤ 1000) (hW : (st.map fun v => v.category).sum ≤ 8)
    (K : RUN G l (d + 1) M (pc + 3) ls st (hPut h a (byt (bJ (cpT t0 t1 sp dp n)))) Q) : RUN G l (d + 1) M pc ls (.int (J (n : Int)) :: .int (J (dp : Int)) :: .ref a :: .int (J (sp : Int)) :: .ref a0 :: st) h Q := by
  have nl : ∀ k : Nat, k ≤ 1000 → ¬ J (k : Int) < 0 := fun k hk => by rw [J_0, J_lt (by constructor <;> omega) (by decide)]; omega
  have nc : ∀ k : Nat, k ≤ 1000 → (J (k : Int)).toNatClampNeg = k := fun k hk => by rw [J_cl (by omega) (by constructor <;> omega)]; omega
  refine r_copyB hdg hw ho0 ho1 hlo (nl sp (by omega)) (nl dp (by omega)) (nl n (by omega)) ?_ ?_ hW ?_
  · rw [nc sp (by omega), nc n (by omega), bJ_l]; exact h4
  · rw [nc dp (by omega), nc n (by omega), bJ_l]; exact h5
  · rw [nc sp (by omega), nc dp (by omega), nc n (by omega), bJ_cp]; exact K
theorem rj_alenB {a : Nat} {t : List Int} (hdg : decode M.2.1 pc = .ok (.arraylength, 1)) (ho : isBy G h a (bJ t)) (K : RUN G l d M (pc + 1) ls (.int (J (t.length : Int)) :: st) h Q) : RUN G l d M pc ls (.ref a :: st) h Q :=
  r_alenB hdg ho (by rw [bJ_l, J_nat]; exact K)
theorem rj_getC {index : Nat} (hdg : decode M.2.1 pc = .ok (.getstatic index, 3)) (hw : Cond.fieldLink M.1.cls index "java/lang/String" "COMPACT_STRINGS" "Z" ∈ lw_use) (K : RUN G l d M (pc + 3) ls (.int (J 1) :: st) h Q) : RUN G l d M pc ls st h Q := r_getCompact hdg hw (by rw [J_1]; exact K)
theorem rj_SIO {index : Nat} (hdg : decode M.2.1 pc = .ok (.getstatic index, 3)) (hw : Cond.fieldLink M.1.cls index "jdk/internal/util/Preconditions" "SIOOBE_FORMATTER" "Ljava/util/function/BiFunction;" ∈ lw_use) (K : RUN G l d M (pc + 3) ls (va_rf (kkS G) :: st) h Q) : RUN G l d M pc ls st h Q := m_gets hdg hw (fun hH => hH.2.2.2.1.2.1) K
theorem rj_Sv {index a v : Nat} {t : List Int32} (hdg : decode M.2.1 pc = .ok (.getfield index, 3)) (hf : mFld M.1.cls index 11 0 (.array .byte) true) (ho : isStV G h a v t) (K : RUN G l d M (pc + 3) ls (.ref v :: st) h Q) : RUN G l d M pc ls (.ref a :: st) h Q := r_getSv hdg hf ho K
theorem rj_Sc {index a v : Nat} {t : List Int32} (hdg : decode M.2.1 pc = .ok (.getfield index, 3)) (hf : mFld M.1.cls index 11 1 .byte true) (ho : isStV G h a v t) (K : RUN G l d M (pc + 3) ls (.int (J 0) :: st) h Q) : RUN G l d M pc ls (.ref a :: st) h Q := r_getSc hdg hf ho (by rw [J_0]; exact K)
theorem rj_shr0 {x : Int32} (hdg : decode M.2.1 pc = .ok (.ishr, 1)) (K : RUN G l d M (pc + 1) ls (.int x :: st) h Q) : RUN G l d M pc ls (.int (J 0) :: .int x :: st) h Q := r_ishr hdg (by rw [← J_0, sb_shr0]; exact K)
theorem rj_shl0 {x : Int32} (hdg : decode M.2.1 pc = .ok (.ishl, 1)) (K : RUN G l d M (pc + 1) ls (.int x :: st) h Q) : RUN G l d M pc ls (.int (J 0) :: .int x :: st) h Q := r_ishl hdg (by rw [← J_0, sb_shl0]; exact K)
theorem rj_andC {c : Int} (hdg : decode M.2.1 pc = .ok (.iand, 1)) (hc : 0 ≤ c ∧ c ≤ 127) (K : RUN G l d M (pc + 1) ls (.int (J c) :: st) h Q) : RUN G l d M pc ls (.int (J 255) :: .int (J c) :: st) h Q := r_iand hdg (by rw [(byte_c hc).2.2.1]; exact K)
theorem rj_i2c {c : Int} (hdg : decode M.2.1 pc = .ok (.i2c, 1)) (hc : 0 ≤ c ∧ c ≤ 127) (K : RUN G l d M (pc + 1) ls (.int (J c) :: st) h Q) : RUN G l d M pc ls (.int (J c) :: st) h Q := r_i2c hdg (byte_c hc).2.2.2.1 K
theorem rj_i2b {c : Int} (hdg : decode M.2.1 pc = .ok (.i2b, 1)) (hc : 0 ≤ c ∧ c ≤ 127) (K : RUN G l d M (pc + 1) ls (.int (J c) :: st) h Q) : RUN G l d M pc ls (.int (J c) :: st) h Q := r_i2b hdg (byte_c hc).1 K
theorem lw_mm0 : Cond.static Lib.Math.max.name ∈ lw_tbl ∧ Cond.static Lib.Math.min.name ∈ lw_tbl ∧ Cond.initialized "java/lang/Math" ∈ lw_tbl ∧ Cond.code Lib.Math.max.name Lib.Math.max.code 2 (some .int) ∈ lw_tbl ∧ Cond.code Lib.Math.min.name Lib.Math.min.code 2 (some .int) ∈ lw_tbl := by decide +kernel
theorem r_mmax {index : Nat} {x y : Int32} (hdg : decode M.2.1 pc = .ok (.invokestatic index, 3)) (hw : Cond.methodLink M.1.cls index Lib.Math.max.name ∈ lw_use) (hW : (st.map fun v => v.category).sum ≤ 8) (K : RUN G l (d + 1) M (pc + 3) ls (.int (if x < y then y else x) :: st) h Q) : RUN G l (d + 1) M pc ls (.int y :: .int x :: st) h Q := by
  refine RUN.step (fun v h' b => ⟨b.1, fun p e R s m args below meth c H locs cells slots kC kS Q lsR C S r1 r2 r3 r4 KK => ?_⟩) K
  have w := b.2 p e R s m args below meth c H locs cells slots kC kS Q lsR C S r1 r2 r3 r4 KK
  obtain ⟨hx, hb, -, hml, hown, hts, -, -, hK, hfr, hlo⟩ := C
  exact va_mmax hx hb (by rw [hml]; exact S.2.2.2.1.symm) hown (hts _ hw) (hts _ (lw_use_in lw_mm0.1 rfl)) (hts _ (lw_use_in lw_mm0.2.2.1 rfl)) (hts _ (lw_use_in lw_mm0.2.2.2.1 rfl)) (by omega) (by omega) (by omega) (by omega) hdg w
theorem r_mmin {index : Nat} {x y : Int32} (hdg : decode M.2.1 pc = .ok (.invokestatic index, 3)) (hw : Cond.methodLink M.1.cls index Lib.Math.min.name ∈ lw_use) (hW : (st.map fun v => v.category).sum ≤ 8) (K : RUN G l (d + 1) M (pc + 3) ls (.int (if y < x then y else x) :: st) h Q) : RUN G l (d + 1) M pc ls (.int y :: .int x :: st) h Q := by
  refine RUN.step (fun v h' b => ⟨b.1, fun p e R s m args below meth c H locs cells slots kC kS Q lsR C S r1 r2 r3 r4 KK => ?_⟩) K
  have w := b.2 p e R s m args below meth c H locs cells slots kC kS Q lsR C S r1 r2 r3 r4 KK
  obtain ⟨hx, hb, -, hml, hown, hts, -, -, hK, hfr, hlo⟩ := C
  exact va_mmin hx hb (by rw [hml]; exact S.2.2.2.1.symm) hown (hts _ hw) (hts _ (lw_use_in lw_mm0.2.1 rfl)) (hts _ (lw_use_in lw_mm0.2.2.1 rfl)) (hts _ (lw_use_in lw_mm0.2.2.2.2 rfl)) (by omega) (by omega) (by omega) (by omega) hdg w
theorem rj_mmax {index : Nat} {a b : Int} (hdg : decode M.2.1 pc = .ok (.invokestatic index, 3)) (hw : Cond.methodLink M.1.cls index Lib.Math.max.name ∈ lw_use) (hW : (st.map fun v => v.category).sum ≤ 8) (ha : InR a) (hb : InR b) (K : RUN G l (d + 1) M (pc + 3) ls (.int (J (if a < b then b else a)) :: st) h Q) : RUN G l (d + 1) M pc ls (.int (J b) :: .int (J a) :: st) h Q := by
  refine r_mmax hdg hw hW ?_
  by_cases c : a < b
  · rw [if_pos c] at K
    rw [if_pos ((J_lt ha hb).mpr c)]; exact K
  · rw [if_neg c] at K
    rw [if_neg (fun z => c ((J_lt ha hb).mp z))]; exact K
theorem rj_mmin {index : Nat} {a b : Int} (hdg : decode M.2.1 pc = .ok (.invokestatic index, 3)) (hw : Cond.methodLink M.1.cls index Lib.Math.min.name ∈ lw_use) (hW : (st.map fun v => v.category).sum ≤ 8) (ha : InR a) (hb : InR b) (K : RUN G l (d + 1) M (pc + 3) ls (.int (J (if b < a then b else a)) :: st) h Q) : RUN G l (d + 1) M pc ls (.int (J b) :: .int (J a) :: st) h Q := by
  refine r_mmin hdg hw hW ?_
  by_cases c : b < a
  · rw [if_pos c] at K
    rw [if_pos ((J_lt hb ha).mpr c)]; exact K
  · rw [if_neg c] at K
    rw [if_neg (fun z => c ((J_lt hb ha).mp z))]; exact K
end RJB
/-! builders -/
noncomputable abbrev sbO (v : Nat) (ml : Int32) (n : Int) : mO := .inl (12, [.ref v, .int (J 0), .int ml, .int (J n)])
def isSB (h : mH) (a v : Nat) (bs t : List Int) : Prop := (∃ ml : Int32, hGet h a = some (sbO v ml t.length)) ∧ hGet h v = some (byt (bJ bs)) ∧ (t.length ≤ bs.length ∧ bs.length ≤ 300 ∧ bs.take t.length = t) ∧ (a < v ∧ h.1 ≤ a ∧ v < h.2.1)
/-- what a builder's call leaves: the builder at a, its bytes at v; so many objects and slots more -/
def SBs (a v k s : Nat) (h h' : mH) : Prop := Old (fun b => b = a ∨ b = v) h h' ∧ h'.2.1 ≤ h.2.1 + k ∧ h.2.2.1 ≤ h'.2.2.1 ∧ h'.2.2.1 ≤ h.2.2.1 + s

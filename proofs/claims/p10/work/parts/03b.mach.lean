/-! ===== instructions that move the stack and the locals alone ===== -/
def mTy : List FieldType := [.int, .object "ScopeWarden$Ints", .object "ScopeWarden$Thing", .object "ScopeWarden$Scope", .object "ScopeWarden$Task"]
section RU
variable {G : mG} {l : Launch} {d : Nat} {M : mM} {pc : Nat} {ls : List (Option Value)} {st : List Value} {h : mH} {Q : Option Value → mH → Prop}
def isRefV : Value → Bool
  | .null => true
  | .ref _ => true
  | _ => false
theorem isRefV_of {v : Value} (h : isRefV v = true) : v = .null ∨ ∃ a, v = .ref a := by
  cases v <;> first | exact Or.inl rfl | exact Or.inr ⟨_, rfl⟩ | (simp [isRefV] at h)
theorem isRefV_rf (r : Option Nat) : isRefV (va_rf r) = true := by cases r <;> rfl

theorem r_iconst {n : Int} {v : Int32} (hdg : decode M.2.1 pc = .ok (.iconst n, 1)) (hv : Int32.ofInt n = v) (K : RUN G l d M (pc + 1) ls (.int v :: st) h Q) : RUN G l d M pc ls st h Q := r_pure (fun hx hb hown hts L _ _ w => lv_iconst hx hb hdg hv w) K
theorem r_bipush {n : Int} {v : Int32} (hdg : decode M.2.1 pc = .ok (.bipush n, 2)) (hv : (Int8.ofInt n).toInt32 = v) (K : RUN G l d M (pc + 2) ls (.int v :: st) h Q) : RUN G l d M pc ls st h Q := r_pure (fun hx hb hown hts L _ _ w => lv_bipush hx hb hdg hv w) K
theorem r_sipush {n : Int} {v : Int32} (hdg : decode M.2.1 pc = .ok (.sipush n, 3)) (hv : (Int16.ofInt n).toInt32 = v) (K : RUN G l d M (pc + 3) ls (.int v :: st) h Q) : RUN G l d M pc ls st h Q := r_pure (fun hx hb hown hts L _ _ w => lv_sipush hx hb hdg hv w) K
theorem r_lconst {n : Fin 2} {v : Int64} (hdg : decode M.2.1 pc = .ok (.lconst n, 1)) (hv : Int64.ofNat (n : Nat) = v) (K : RUN G l d M (pc + 1) ls (.long v :: st) h Q) : RUN G l d M pc ls st h Q := r_pure (fun hx hb hown hts L _ _ w => lv_lconst hx hb hdg hv w) K
theorem r_null  (hdg : decode M.2.1 pc = .ok (.aconst_null, 1))  (K : RUN G l d M (pc + 1) ls (.null :: st) h Q) : RUN G l d M pc ls st h Q := r_pure (fun hx hb hown hts L _ _ w => lv_null hx hb hdg w) K
theorem r_ldc {index : Nat} {v : Int32} (hdg : decode M.2.1 pc = .ok (.ldc index, 2)) (hw : Jvm.Cond.constant M.1.cls index v ∈ lw_use) (K : RUN G l d M (pc + 2) ls (.int v :: st) h Q) : RUN G l d M pc ls st h Q := r_pure (fun hx hb hown hts L _ _ w => lv_ldc hx hb hown (hts _ hw) hdg w) K
theorem r_ldc2 {index : Nat} {v : Int64} (hdg : decode M.2.1 pc = .ok (.ldc2_w index, 3)) (hw : Jvm.Cond.constantLong M.1.cls index v ∈ lw_use) (K : RUN G l d M (pc + 3) ls (.long v :: st) h Q) : RUN G l d M pc ls st h Q := r_pure (fun hx hb hown hts L _ _ w => lv_ldc2 hx hb hown (hts _ hw) hdg w) K
theorem r_iload_n {k : Fin 4} {x : Int32} (hdg : decode M.2.1 pc = .ok (.iload_n k, 1)) (hl : ls[(k : Nat)]? = some (some (.int x))) (K : RUN G l d M (pc + 1) ls (.int x :: st) h Q) : RUN G l d M pc ls st h Q := r_pure (fun hx hb hown hts L _ _ w => lv_iload_n hx hb hdg rfl (lsL_at L hl) w) K
theorem r_iload {i : Nat} {x : Int32} (hdg : decode M.2.1 pc = .ok (.iload i, 2)) (hl : ls[i]? = some (some (.int x))) (K : RUN G l d M (pc + 2) ls (.int x :: st) h Q) : RUN G l d M pc ls st h Q := r_pure (fun hx hb hown hts L _ _ w => lv_iload hx hb hdg (lsL_at L hl) w) K
theorem r_lload_n {k : Fin 4} {x : Int64} (hdg : decode M.2.1 pc = .ok (.lload_n k, 1)) (hl : ls[(k : Nat)]? = some (some (.long x))) (K : RUN G l d M (pc + 1) ls (.long x :: st) h Q) : RUN G l d M pc ls st h Q := r_pure (fun hx hb hown hts L _ _ w => lv_lload_n hx hb hdg rfl (lsL_at L hl) w) K
theorem r_lload {i : Nat} {x : Int64} (hdg : decode M.2.1 pc = .ok (.lload i, 2)) (hl : ls[i]? = some (some (.long x))) (K : RUN G l d M (pc + 2) ls (.long x :: st) h Q) : RUN G l d M pc ls st h Q := r_pure (fun hx hb hown hts L _ _ w => lv_lload hx hb hdg (lsL_at L hl) w) K
theorem r_aload_n {k : Fin 4} {v : Value} (hdg : decode M.2.1 pc = .ok (.aload_n k, 1)) (hl : ls[(k : Nat)]? = some (some v)) (hv : isRefV v = true) (K : RUN G l d M (pc + 1) ls (v :: st) h Q) : RUN G l d M pc ls st h Q := by
  rcases isRefV_of hv with rfl | ⟨a, rfl⟩
  · exact r_pure (fun hx hb _ _ L _ _ w => lv_aload_nN hx hb hdg rfl (lsL_at L hl) w) K
  · exact r_pure (fun hx hb _ _ L _ _ w => lv_aload_n hx hb hdg rfl (lsL_at L hl) w) K
theorem r_aload {i : Nat} {v : Value} (hdg : decode M.2.1 pc = .ok (.aload i, 2)) (hl : ls[i]? = some (some v)) (hv : isRefV v = true) (K : RUN G l d M (pc + 2) ls (v :: st) h Q) : RUN G l d M pc ls st h Q := by
  rcases isRefV_of hv with rfl | ⟨a, rfl⟩
  · exact r_pure (fun hx hb _ _ L _ _ w => lv_aloadN hx hb hdg (lsL_at L hl) w) K
  · exact r_pure (fun hx hb _ _ L _ _ w => lv_aload hx hb hdg (lsL_at L hl) w) K
theorem r_istore_n {k : Fin 4} {x : Int32} (hdg : decode M.2.1 pc = .ok (.istore_n k, 1)) (hn : (k : Nat) < M.2.2.1) (K : RUN G l d M (pc + 1) (lsSt ls k (.int x)) st h Q) : RUN G l d M pc ls (.int x :: st) h Q :=
  r_loc (fun hx hb L w => lv_istore_n hx hb hdg rfl L hn rfl (fun ls' g => w ls' (lsSt_ok g))) K
theorem r_istore {i : Nat} {x : Int32} (hdg : decode M.2.1 pc = .ok (.istore i, 2)) (hn : i < M.2.2.1) (K : RUN G l d M (pc + 2) (lsSt ls i (.int x)) st h Q) : RUN G l d M pc ls (.int x :: st) h Q :=
  r_loc (fun hx hb L w => lv_istore hx hb hdg L hn rfl (fun ls' g => w ls' (lsSt_ok g))) K
theorem r_lstore_n {k : Fin 4} {x : Int64} (hdg : decode M.2.1 pc = .ok (.lstore_n k, 1)) (hn : (k : Nat) + 1 < M.2.2.1) (K : RUN G l d M (pc + 1) (lsSt2 ls k (.long x)) st h Q) : RUN G l d M pc ls (.long x :: st) h Q :=
  r_loc (fun hx hb L w => lv_lstore_n hx hb hdg rfl L hn rfl (fun ls' g => w ls' (lsSt2_ok g))) K
theorem r_lstore {i : Nat} {x : Int64} (hdg : decode M.2.1 pc = .ok (.lstore i, 2)) (hn : i + 1 < M.2.2.1) (K : RUN G l d M (pc + 2) (lsSt2 ls i (.long x)) st h Q) : RUN G l d M pc ls (.long x :: st) h Q :=
  r_loc (fun hx hb L w => lv_lstore hx hb hdg L hn rfl (fun ls' g => w ls' (lsSt2_ok g))) K
theorem r_astore_n {k : Fin 4} {v : Value} (hdg : decode M.2.1 pc = .ok (.astore_n k, 1)) (hn : (k : Nat) < M.2.2.1) (hv : isRefV v = true) (K : RUN G l d M (pc + 1) (lsSt ls k v) st h Q) : RUN G l d M pc ls (v :: st) h Q := by
  rcases isRefV_of hv with rfl | ⟨a, rfl⟩
  · exact r_loc (fun hx hb L w => lv_astore_nN hx hb hdg rfl L hn rfl (fun ls' g => w ls' (lsSt_ok g))) K
  · exact r_loc (fun hx hb L w => lv_astore_n hx hb hdg rfl L hn rfl (fun ls' g => w ls' (lsSt_ok g))) K
theorem r_astore {i : Nat} {v : Value} (hdg : decode M.2.1 pc = .ok (.astore i, 2)) (hn : i < M.2.2.1) (hv : isRefV v = true) (K : RUN G l d M (pc + 2) (lsSt ls i v) st h Q) : RUN G l d M pc ls (v :: st) h Q := by
  rcases isRefV_of hv with rfl | ⟨a, rfl⟩
  · exact r_loc (fun hx hb L w => lv_astoreN hx hb hdg L hn rfl (fun ls' g => w ls' (lsSt_ok g))) K
  · exact r_loc (fun hx hb L w => lv_astore hx hb hdg L hn rfl (fun ls' g => w ls' (lsSt_ok g))) K
theorem r_iinc {i : Nat} {n : Int} {x v : Int32} (hdg : decode M.2.1 pc = .ok (.iinc i n, 3)) (hn : i < M.2.2.1) (hl : ls[i]? = some (some (.int x))) (hv : x + Int32.ofInt n = v) (K : RUN G l d M (pc + 3) (lsSt ls i (.int v)) st h Q) : RUN G l d M pc ls st h Q := by
  obtain ⟨k, hk⟩ := List.getElem?_of_mem ((lsL_in ls 0 (i, .int x)).mpr ⟨i, hl, by simp⟩)
  exact r_loc (fun hx hb L w => lv_iinc hx hb hdg L hk hv hn rfl (fun ls' g => w ls' (lsSt_ok g))) K
theorem r_iadd {x y : Int32} (hdg : decode M.2.1 pc = .ok (.iadd, 1))  (K : RUN G l d M (pc + 1) ls (.int (x + y) :: st) h Q) : RUN G l d M pc ls (.int y :: .int x :: st) h Q := r_pure (fun hx hb _ _ _ _ _ w => lv_iadd hx hb hdg  w) K
theorem r_isub {x y : Int32} (hdg : decode M.2.1 pc = .ok (.isub, 1))  (K : RUN G l d M (pc + 1) ls (.int (x - y) :: st) h Q) : RUN G l d M pc ls (.int y :: .int x :: st) h Q := r_pure (fun hx hb _ _ _ _ _ w => lv_isub hx hb hdg  w) K
theorem r_imul {x y : Int32} (hdg : decode M.2.1 pc = .ok (.imul, 1))  (K : RUN G l d M (pc + 1) ls (.int (x * y) :: st) h Q) : RUN G l d M pc ls (.int y :: .int x :: st) h Q := r_pure (fun hx hb _ _ _ _ _ w => lv_imul hx hb hdg  w) K
theorem r_iand {x y : Int32} (hdg : decode M.2.1 pc = .ok (.iand, 1))  (K : RUN G l d M (pc + 1) ls (.int (x &&& y) :: st) h Q) : RUN G l d M pc ls (.int y :: .int x :: st) h Q := r_pure (fun hx hb _ _ _ _ _ w => lv_iand hx hb hdg  w) K
theorem r_ior {x y : Int32} (hdg : decode M.2.1 pc = .ok (.ior, 1))  (K : RUN G l d M (pc + 1) ls (.int (x ||| y) :: st) h Q) : RUN G l d M pc ls (.int y :: .int x :: st) h Q := r_pure (fun hx hb _ _ _ _ _ w => lv_ior hx hb hdg  w) K
theorem r_ixor {x y : Int32} (hdg : decode M.2.1 pc = .ok (.ixor, 1))  (K : RUN G l d M (pc + 1) ls (.int (x ^^^ y) :: st) h Q) : RUN G l d M pc ls (.int y :: .int x :: st) h Q := r_pure (fun hx hb _ _ _ _ _ w => lv_ixor hx hb hdg  w) K
theorem r_idiv {x y : Int32} (hdg : decode M.2.1 pc = .ok (.idiv, 1)) (hne : ¬ y = 0) (K : RUN G l d M (pc + 1) ls (.int (x / y) :: st) h Q) : RUN G l d M pc ls (.int y :: .int x :: st) h Q := r_pure (fun hx hb _ _ _ _ _ w => lv_idiv hx hb hdg hne w) K
theorem r_irem {x y : Int32} (hdg : decode M.2.1 pc = .ok (.irem, 1)) (hne : ¬ y = 0) (K : RUN G l d M (pc + 1) ls (.int (x - x / y * y) :: st) h Q) : RUN G l d M pc ls (.int y :: .int x :: st) h Q := r_pure (fun hx hb _ _ _ _ _ w => lv_irem hx hb hdg hne w) K
theorem r_ladd {x y : Int64} (hdg : decode M.2.1 pc = .ok (.ladd, 1))  (K : RUN G l d M (pc + 1) ls (.long (x + y) :: st) h Q) : RUN G l d M pc ls (.long y :: .long x :: st) h Q := r_pure (fun hx hb _ _ _ _ _ w => lv_ladd hx hb hdg  w) K
theorem r_lsub {x y : Int64} (hdg : decode M.2.1 pc = .ok (.lsub, 1))  (K : RUN G l d M (pc + 1) ls (.long (x - y) :: st) h Q) : RUN G l d M pc ls (.long y :: .long x :: st) h Q := r_pure (fun hx hb _ _ _ _ _ w => lv_lsub hx hb hdg  w) K
theorem r_lcmp {x y : Int64} (hdg : decode M.2.1 pc = .ok (.lcmp, 1)) (K : RUN G l d M (pc + 1) ls (.int (lg_cmp x y) :: st) h Q) : RUN G l d M pc ls (.long y :: .long x :: st) h Q := r_pure (fun hx hb _ _ _ _ _ w => W.lcmp hx hb hdg w) K
theorem r_lshl {x : Int64} {y : Int32} (hdg : decode M.2.1 pc = .ok (.lshl, 1)) (K : RUN G l d M (pc + 1) ls (.long (x <<< (y.toInt64 &&& 63)) :: st) h Q) : RUN G l d M pc ls (.int y :: .long x :: st) h Q := r_pure (fun hx hb _ _ _ _ _ w => lv_lshl hx hb hdg rfl w) K
theorem r_lshr {x : Int64} {y : Int32} (hdg : decode M.2.1 pc = .ok (.lshr, 1)) (K : RUN G l d M (pc + 1) ls (.long (x >>> (y.toInt64 &&& 63)) :: st) h Q) : RUN G l d M pc ls (.int y :: .long x :: st) h Q := r_pure (fun hx hb _ _ _ _ _ w => lv_lshr hx hb hdg rfl w) K
theorem r_ineg {x : Int32} (hdg : decode M.2.1 pc = .ok (.ineg, 1)) (K : RUN G l d M (pc + 1) ls (.int (-x) :: st) h Q) : RUN G l d M pc ls (.int x :: st) h Q := r_pure (fun hx hb _ _ _ _ _ w => lv_ineg hx hb hdg w) K
theorem r_i2l {x : Int32} (hdg : decode M.2.1 pc = .ok (.i2l, 1)) (K : RUN G l d M (pc + 1) ls (.long x.toInt64 :: st) h Q) : RUN G l d M pc ls (.int x :: st) h Q := r_pure (fun hx hb _ _ _ _ _ w => lv_i2l hx hb hdg rfl w) K
theorem r_l2i {x : Int64} (hdg : decode M.2.1 pc = .ok (.l2i, 1)) (K : RUN G l d M (pc + 1) ls (.int x.toInt32 :: st) h Q) : RUN G l d M pc ls (.long x :: st) h Q := r_pure (fun hx hb _ _ _ _ _ w => lv_l2i hx hb hdg rfl w) K
theorem r_dup {v : Value} (hdg : decode M.2.1 pc = .ok (.dup, 1)) (hv : v.category = 1) (K : RUN G l d M (pc + 1) ls (v :: v :: st) h Q) : RUN G l d M pc ls (v :: st) h Q := r_pure (fun hx hb _ _ _ _ _ w => lv_dup hx hb hdg hv w) K
theorem r_pop {v : Value} (hdg : decode M.2.1 pc = .ok (.pop, 1)) (hv : v.category = 1) (K : RUN G l d M (pc + 1) ls st h Q) : RUN G l d M pc ls (v :: st) h Q := r_pure (fun hx hb _ _ _ _ _ w => lv_pop hx hb hdg hv w) K
theorem r_dup2 {v u : Value} (hdg : decode M.2.1 pc = .ok (.dup2, 1)) (hv : v.category = 1) (hu : u.category = 1) (K : RUN G l d M (pc + 1) ls (v :: u :: v :: u :: st) h Q) : RUN G l d M pc ls (v :: u :: st) h Q := r_pure (fun hx hb _ _ _ _ _ w => lv_dup2_11 hx hb hdg hv hu w) K
theorem r_goto {off : Int} {tgt : Nat} (hdg : decode M.2.1 pc = .ok (.goto off, 3)) (ht : (pc : Int) + off = (tgt : Int)) (K : RUN G l d M tgt ls st h Q) : RUN G l d M pc ls st h Q := r_pure (fun hx hb _ _ _ _ _ w => lv_goto hx hb hdg ht w) K
theorem r_if_eq {x : Int32} {off : Int} {tgt : Nat} (hdg : decode M.2.1 pc = .ok (.ifCond .eq off, 3)) (ht : (pc : Int) + off = (tgt : Int)) (kt : x = 0 → RUN G l d M tgt ls st h Q) (kf : ¬ x = 0 → RUN G l d M (pc + 3) ls st h Q) : RUN G l d M pc ls (.int x :: st) h Q := by
  by_cases hc : x = 0
  · exact r_pure (fun hx hb _ _ _ _ _ w => lv_if_eq hx hb hdg ht (fun _ => w) (fun q => absurd hc q)) (kt hc)
  · exact r_pure (fun hx hb _ _ _ _ _ w => lv_if_eq hx hb hdg ht (fun q => absurd q hc) (fun _ => w)) (kf hc)
theorem r_icmp_eq {x y : Int32} {off : Int} {tgt : Nat} (hdg : decode M.2.1 pc = .ok (.if_icmp .eq off, 3)) (ht : (pc : Int) + off = (tgt : Int)) (kt : x = y → RUN G l d M tgt ls st h Q) (kf : ¬ x = y → RUN G l d M (pc + 3) ls st h Q) : RUN G l d M pc ls (.int y :: .int x :: st) h Q := by
  by_cases hc : x = y
  · exact r_pure (fun hx hb _ _ _ _ _ w => lv_icmp_eq hx hb hdg ht (fun _ => w) (fun q => absurd hc q)) (kt hc)
  · exact r_pure (fun hx hb _ _ _ _ _ w => lv_icmp_eq hx hb hdg ht (fun q => absurd q hc) (fun _ => w)) (kf hc)
theorem r_if_lt {x : Int32} {off : Int} {tgt : Nat} (hdg : decode M.2.1 pc = .ok (.ifCond .lt off, 3)) (ht : (pc : Int) + off = (tgt : Int)) (kt : x < 0 → RUN G l d M tgt ls st h Q) (kf : ¬ x < 0 → RUN G l d M (pc + 3) ls st h Q) : RUN G l d M pc ls (.int x :: st) h Q := by
  by_cases hc : x < 0
  · exact r_pure (fun hx hb _ _ _ _ _ w => lv_if_lt hx hb hdg ht (fun _ => w) (fun q => absurd hc q)) (kt hc)
  · exact r_pure (fun hx hb _ _ _ _ _ w => lv_if_lt hx hb hdg ht (fun q => absurd q hc) (fun _ => w)) (kf hc)
theorem r_icmp_lt {x y : Int32} {off : Int} {tgt : Nat} (hdg : decode M.2.1 pc = .ok (.if_icmp .lt off, 3)) (ht : (pc : Int) + off = (tgt : Int)) (kt : x < y → RUN G l d M tgt ls st h Q) (kf : ¬ x < y → RUN G l d M (pc + 3) ls st h Q) : RUN G l d M pc ls (.int y :: .int x :: st) h Q := by
  by_cases hc : x < y
  · exact r_pure (fun hx hb _ _ _ _ _ w => lv_icmp_lt hx hb hdg ht (fun _ => w) (fun q => absurd hc q)) (kt hc)
  · exact r_pure (fun hx hb _ _ _ _ _ w => lv_icmp_lt hx hb hdg ht (fun q => absurd q hc) (fun _ => w)) (kf hc)
theorem r_if_ge {x : Int32} {off : Int} {tgt : Nat} (hdg : decode M.2.1 pc = .ok (.ifCond .ge off, 3)) (ht : (pc : Int) + off = (tgt : Int)) (kt : 0 ≤ x → RUN G l d M tgt ls st h Q) (kf : ¬ 0 ≤ x → RUN G l d M (pc + 3) ls st h Q) : RUN G l d M pc ls (.int x :: st) h Q := by
  by_cases hc : 0 ≤ x
  · exact r_pure (fun hx hb _ _ _ _ _ w => lv_if_ge hx hb hdg ht (fun _ => w) (fun q => absurd hc q)) (kt hc)
  · exact r_pure (fun hx hb _ _ _ _ _ w => lv_if_ge hx hb hdg ht (fun q => absurd q hc) (fun _ => w)) (kf hc)
theorem r_icmp_ge {x y : Int32} {off : Int} {tgt : Nat} (hdg : decode M.2.1 pc = .ok (.if_icmp .ge off, 3)) (ht : (pc : Int) + off = (tgt : Int)) (kt : y ≤ x → RUN G l d M tgt ls st h Q) (kf : ¬ y ≤ x → RUN G l d M (pc + 3) ls st h Q) : RUN G l d M pc ls (.int y :: .int x :: st) h Q := by
  by_cases hc : y ≤ x
  · exact r_pure (fun hx hb _ _ _ _ _ w => lv_icmp_ge hx hb hdg ht (fun _ => w) (fun q => absurd hc q)) (kt hc)
  · exact r_pure (fun hx hb _ _ _ _ _ w => lv_icmp_ge hx hb hdg ht (fun q => absurd q hc) (fun _ => w)) (kf hc)
theorem r_if_gt {x : Int32} {off : Int} {tgt : Nat} (hdg : decode M.2.1 pc = .ok (.ifCond .gt off, 3)) (ht : (pc : Int) + off = (tgt : Int)) (kt : 0 < x → RUN G l d M tgt ls st h Q) (kf : ¬ 0 < x → RUN G l d M (pc + 3) ls st h Q) : RUN G l d M pc ls (.int x :: st) h Q := by
  by_cases hc : 0 < x
  · exact r_pure (fun hx hb _ _ _ _ _ w => lv_if_gt hx hb hdg ht (fun _ => w) (fun q => absurd hc q)) (kt hc)
  · exact r_pure (fun hx hb _ _ _ _ _ w => lv_if_gt hx hb hdg ht (fun q => absurd q hc) (fun _ => w)) (kf hc)
theorem r_icmp_gt {x y : Int32} {off : Int} {tgt : Nat} (hdg : decode M.2.1 pc = .ok (.if_icmp .gt off, 3)) (ht : (pc : Int) + off = (tgt : Int)) (kt : y < x → RUN G l d M tgt ls st h Q) (kf : ¬ y < x → RUN G l d M (pc + 3) ls st h Q) : RUN G l d M pc ls (.int y :: .int x :: st) h Q := by
  by_cases hc : y < x
  · exact r_pure (fun hx hb _ _ _ _ _ w => lv_icmp_gt hx hb hdg ht (fun _ => w) (fun q => absurd hc q)) (kt hc)
  · exact r_pure (fun hx hb _ _ _ _ _ w => lv_icmp_gt hx hb hdg ht (fun q => absurd q hc) (fun _ => w)) (kf hc)
theorem r_if_le {x : Int32} {off : Int} {tgt : Nat} (hdg : decode M.2.1 pc = .ok (.ifCond .le off, 3)) (ht : (pc : Int) + off = (tgt : Int)) (kt : x ≤ 0 → RUN G l d M tgt ls st h Q) (kf : ¬ x ≤ 0 → RUN G l d M (pc + 3) ls st h Q) : RUN G l d M pc ls (.int x :: st) h Q := by
  by_cases hc : x ≤ 0
  · exact r_pure (fun hx hb _ _ _ _ _ w => lv_if_le hx hb hdg ht (fun _ => w) (fun q => absurd hc q)) (kt hc)
  · exact r_pure (fun hx hb _ _ _ _ _ w => lv_if_le hx hb hdg ht (fun q => absurd q hc) (fun _ => w)) (kf hc)
theorem r_icmp_le {x y : Int32} {off : Int} {tgt : Nat} (hdg : decode M.2.1 pc = .ok (.if_icmp .le off, 3)) (ht : (pc : Int) + off = (tgt : Int)) (kt : x ≤ y → RUN G l d M tgt ls st h Q) (kf : ¬ x ≤ y → RUN G l d M (pc + 3) ls st h Q) : RUN G l d M pc ls (.int y :: .int x :: st) h Q := by
  by_cases hc : x ≤ y
  · exact r_pure (fun hx hb _ _ _ _ _ w => lv_icmp_le hx hb hdg ht (fun _ => w) (fun q => absurd hc q)) (kt hc)
  · exact r_pure (fun hx hb _ _ _ _ _ w => lv_icmp_le hx hb hdg ht (fun q => absurd q hc) (fun _ => w)) (kf hc)
theorem r_if_ne {x : Int32} {off : Int} {tgt : Nat} (hdg : decode M.2.1 pc = .ok (.ifCond .ne off, 3)) (ht : (pc : Int) + off = (tgt : Int)) (kt : ¬ x = 0 → RUN G l d M tgt ls st h Q) (kf : x = 0 → RUN G l d M (pc + 3) ls st h Q) : RUN G l d M pc ls (.int x :: st) h Q := by
  by_cases hc : x = 0
  · exact r_pure (fun hx hb _ _ _ _ _ w => lv_if_ne hx hb hdg ht (fun q => absurd hc q) (fun _ => w)) (kf hc)
  · exact r_pure (fun hx hb _ _ _ _ _ w => lv_if_ne hx hb hdg ht (fun _ => w) (fun q => absurd q hc)) (kt hc)
theorem r_icmp_ne {x y : Int32} {off : Int} {tgt : Nat} (hdg : decode M.2.1 pc = .ok (.if_icmp .ne off, 3)) (ht : (pc : Int) + off = (tgt : Int)) (kt : ¬ x = y → RUN G l d M tgt ls st h Q) (kf : x = y → RUN G l d M (pc + 3) ls st h Q) : RUN G l d M pc ls (.int y :: .int x :: st) h Q := by
  by_cases hc : x = y
  · exact r_pure (fun hx hb _ _ _ _ _ w => lv_icmp_ne hx hb hdg ht (fun q => absurd hc q) (fun _ => w)) (kf hc)
  · exact r_pure (fun hx hb _ _ _ _ _ w => lv_icmp_ne hx hb hdg ht (fun _ => w) (fun q => absurd q hc)) (kt hc)
theorem r_ifnull {v : Value} {off : Int} {tgt : Nat} (hdg : decode M.2.1 pc = .ok (.ifnull off, 3)) (ht : (pc : Int) + off = (tgt : Int)) (hv : isRefV v = true) (kt : v = .null → RUN G l d M tgt ls st h Q) (kf : ∀ a, v = .ref a → RUN G l d M (pc + 3) ls st h Q) : RUN G l d M pc ls (v :: st) h Q := by
  rcases isRefV_of hv with rfl | ⟨a, rfl⟩
  · exact r_pure (fun hx hb _ _ _ _ _ w => lv_ifnullN hx hb hdg ht w) (kt rfl)
  · exact r_pure (fun hx hb _ _ _ _ _ w => lv_ifnull hx hb hdg w) (kf a rfl)
theorem r_ifnonnull {v : Value} {off : Int} {tgt : Nat} (hdg : decode M.2.1 pc = .ok (.ifnonnull off, 3)) (ht : (pc : Int) + off = (tgt : Int)) (hv : isRefV v = true) (kt : ∀ a, v = .ref a → RUN G l d M tgt ls st h Q) (kf : v = .null → RUN G l d M (pc + 3) ls st h Q) : RUN G l d M pc ls (v :: st) h Q := by
  rcases isRefV_of hv with rfl | ⟨a, rfl⟩
  · exact r_pure (fun hx hb _ _ _ _ _ w => lv_ifnonnullN hx hb hdg w) (kf rfl)
  · exact r_pure (fun hx hb _ _ _ _ _ w => lv_ifnonnull hx hb hdg ht w) (kt a rfl)
theorem r_tswIn {dflt lo hi : Int} {offs : Array Int} {len : Nat} {x : Int32} {off : Int} {tgt : Nat} (hdg : decode M.2.1 pc = .ok (.tableswitch dflt lo hi offs, len)) (h1 : ¬ x.toInt < lo) (h2 : ¬ hi < x.toInt) (ho : offs[(x.toInt - lo).toNat]? = some off) (ht : (pc : Int) + off = (tgt : Int)) (K : RUN G l d M tgt ls st h Q) : RUN G l d M pc ls (.int x :: st) h Q := r_pure (fun hx hb _ _ _ _ _ w => lv_tableIn hx hb hdg h1 h2 ho ht w) K
theorem r_tswOut {dflt lo hi : Int} {offs : Array Int} {len : Nat} {x : Int32} {tgt : Nat} (hdg : decode M.2.1 pc = .ok (.tableswitch dflt lo hi offs, len)) (h1 : x.toInt < lo ∨ hi < x.toInt) (ht : (pc : Int) + dflt = (tgt : Int)) (K : RUN G l d M tgt ls st h Q) : RUN G l d M pc ls (.int x :: st) h Q := r_pure (fun hx hb _ _ _ _ _ w => lv_tableOut hx hb hdg h1 ht w) K
theorem r_lsw {dflt : Int} {ps : Array (Int × Int)} {len : Nat} {x : Int32} {off : Int} {tgt : Nat} (hdg : decode M.2.1 pc = .ok (.lookupswitch dflt ps, len)) (hp : (ps.toList.zip (ps.toList.drop 1)).all (fun (a, next) => a.1 < next.1) = true) (ho : Op.lookupswitch.offset ps.toList dflt x.toInt = off) (ht : (pc : Int) + off = (tgt : Int)) (K : RUN G l d M tgt ls st h Q) : RUN G l d M pc ls (.int x :: st) h Q := r_pure (fun hx hb _ _ _ _ _ w => lv_lookup hx hb hdg hp ho ht w) K
/-! returns -/
theorem r_return (hdg : decode M.2.1 pc = .ok (.return_, 1)) (hr : M.2.2.2 = none) (hq : Q none h) : RUN G l d M pc ls [] h Q := r_end (Or.inl ⟨rfl, rfl, hdg, hr⟩) hq
theorem r_ireturn {x : Int32} (ty : FieldType) (hdg : decode M.2.1 pc = .ok (.ireturn, 1)) (hr : M.2.2.2 = some ty) (hn : narrow ty (.int x) = .int x) (hq : Q (some (.int x)) h) : RUN G l d M pc ls [.int x] h Q := r_end (Or.inr (Or.inl ⟨x, ty, rfl, rfl, hdg, hr, hn⟩)) hq
theorem r_lreturn {x : Int64} (hdg : decode M.2.1 pc = .ok (.lreturn, 1)) (hr : M.2.2.2 = some .long) (hq : Q (some (.long x)) h) : RUN G l d M pc ls [.long x] h Q := r_end (Or.inr (Or.inr (Or.inl ⟨x, rfl, rfl, hdg, hr⟩))) hq
theorem r_areturn {v : Value} (rt : FieldType) (hdg : decode M.2.1 pc = .ok (.areturn, 1)) (hr : M.2.2.2 = some rt) (hrt : (∃ n, rt = .object n) ∨ ∃ t, rt = .array t) (hv : isRefV v = true) (hq : Q (some v) h) : RUN G l d M pc ls [v] h Q := r_end (Or.inr (Or.inr (Or.inr ⟨v, rt, rfl, rfl, hdg, hr, hrt, isRefV_of hv⟩))) hq
end RU

/-! ===== the class's constructors: a Runner, the keeper ===== -/
section RA
variable {G : mG} {l : Launch} {d : Nat} {M : mM} {pc : Nat} {ls : List (Option Value)} {st : List Value} {h : mH} {Q : Option Value → mH → Prop}
theorem rg_aald {i : Int} {c t n b : Nat} {f : Nat → Option Nat} (hdg : decode M.2.1 pc = .ok (.aaload, 1)) (ho : hGet h c = some (.inr (.inr (t, n, f)))) (hr : InR i) (h0 : 0 ≤ i) (h1 : i < n) (hv : f i.toNat = some b) (K : RUN G l d M (pc + 1) ls (.ref b :: st) h Q) : RUN G l d M pc ls (.int (J i) :: .ref c :: st) h Q :=
  rj_aald hdg ho hr h0 h1 (by rw [hv]; exact K)
end RA
def kA (x k : Nat) : Nat := x + k
def kR (x q : Nat) : Nat := x + 188 + 2 * q
def rowR (x : Nat) : Nat → Option Nat := fun q => if q < 4 then some (kR x q) else none
noncomputable def kFsF (x : Nat) (kp tk : Option Nat) : List Value := [.ref (kA x 1), .ref (rA (kA x 1) 1), .ref (kA x 4), .ref (rA (kA x 4) 1), .ref (kA x 7), .ref (kA x 8), .ref (rA (kA x 8) 1), va_rf kp, va_rf tk]
def isK (h : mH) (x : Nat) (kp tk : Option Nat) (zr : Nat → Int) (fr : Nat → Nat → Int) (p e o zt : Int) (ft : Nat → Int) (zs : Int) (fs : Nat → Int) (b za : Int) (fa : Nat → Int) (c : Nat → Int) (C : Nat → Nat → Int) (nm : Nat → Int64) (g : Nat → Option Nat) : Prop :=
  h.1 ≤ x ∧ hGet h x = some (.inl (10, kFsF x kp tk)) ∧ isRd h (kA x 1) p e o zt ft ∧ isSp h (kA x 4) zs fs ∧ hGet h (kA x 7) = some (.inr (.inr (1, 4, rowR x))) ∧ isR h (kA x 8) b za fa c C nm g ∧ ∀ q, q < 4 → isI h (kR x q) 40 (zr q) (fr q)
def kBlk (x : Nat) : Nat → Prop := fun b => x ≤ b ∧ b < x + 196
section IK
variable {h : mH} {x : Nat} {kp tk : Option Nat} {zr : Nat → Int} {fr : Nat → Nat → Int} {p e o zt : Int} {ft : Nat → Int} {zs : Int} {fs : Nat → Int} {b za : Int} {fa : Nat → Int} {c : Nat → Int} {C : Nat → Nat → Int} {nm : Nat → Int64} {g : Nat → Option Nat}
theorem isK.lo (k : isK h x kp tk zr fr p e o zt ft zs fs b za fa c C nm g) : h.1 ≤ x := k.1
theorem isK.gx (k : isK h x kp tk zr fr p e o zt ft zs fs b za fa c C nm g) : hGet h x = some (.inl (10, kFsF x kp tk)) := k.2.1
theorem isK.d (k : isK h x kp tk zr fr p e o zt ft zs fs b za fa c C nm g) : isRd h (kA x 1) p e o zt ft := k.2.2.1
theorem isK.s (k : isK h x kp tk zr fr p e o zt ft zs fs b za fa c C nm g) : isSp h (kA x 4) zs fs := k.2.2.2.1
theorem isK.gr (k : isK h x kp tk zr fr p e o zt ft zs fs b za fa c C nm g) : hGet h (kA x 7) = some (.inr (.inr (1, 4, rowR x))) := k.2.2.2.2.1
theorem isK.r (k : isK h x kp tk zr fr p e o zt ft zs fs b za fa c C nm g) : isR h (kA x 8) b za fa c C nm g := k.2.2.2.2.2.1
theorem isK.w (k : isK h x kp tk zr fr p e o zt ft zs fs b za fa c C nm g) : isW h (rA (kA x 8) 1) c C nm g := k.r.w
theorem isK.row (k : isK h x kp tk zr fr p e o zt ft zs fs b za fa c C nm g) {q : Nat} (hq : q < 4) : isI h (kR x q) 40 (zr q) (fr q) := k.2.2.2.2.2.2 q hq
end IK
def isF (h : mH) (x : Nat) : Prop := isK h x none none (fun _ => -11) (fun _ => w0) 0 0 0 0 w0 0 w0 0 0 w0 wc0 wC0 wn0 wg0
theorem four {P : Nat → Prop} (h0 : P 0) (h1 : P 1) (h2 : P 2) (h3 : P 3) : ∀ q, q < 4 → P q := by
  intro q hq
  match q, hq with
  | 0, _ => exact h0
  | 1, _ => exact h1
  | 2, _ => exact h2
  | 3, _ => exact h3
  | k + 4, hk => omega
set_option maxHeartbeats 4000000 in
set_option maxRecDepth 100000 in
theorem k_X3 {G : mG} {l : Launch} (d : Nat) (hG : G.2.map Prod.snd = mTy) {h : mH} {a : Nat} (hx : hGet h a = some (.inl (3, [.null, .null, .int 0]))) (hlo : h.1 ≤ a) (hn : h.2.1 = a + 1) : RUNM G l (d + 4) mX3_init [.ref a] h (fun v h' => v = none ∧ isR h' a 0 0 w0 wc0 wC0 wn0 wg0 ∧ Grow a h h' ∧ h'.1 = h.1 ∧ h'.2.1 = a + 180 ∧ h'.2.2.1 = h.2.2.1 + 1697) := by
  refine RUNM.of (by decide +kernel) (Nat.le_of_ble_eq_true rfl) ?_
  refine r_aload_n (pc := 0) dX3_init_0 rfl rfl ?_
  refine r_objInit (pc := 1) dX3_init_1 kX3_3 (Nat.le_of_ble_eq_true rfl) ?_
  refine r_aload_n (pc := 4) dX3_init_4 rfl rfl ?_
  refine rg_newC (pc := 5) (z := a + 1) dX3_init_5 cX3_9 hn (fun h_5 o_5 s_5 l_5 n_5 k_5 => ?_)
  have k_5 : h_5.2.2.1 = h.2.2.1 + (11) := sl_add k_5 sl_0
  refine r_dup (pc := 8) dX3_init_8 rfl ?_
  refine r_callI0 (pc := 9) dX3_init_9 qX9_init rfl kX3_11 rfl iX9_init (Nat.le_of_ble_eq_true rfl) (k_X9 _ hG o_5 (Nat.le_trans (Nat.le_trans (Nat.le_of_eq l_5) hlo) (Nat.le_add_right _ _)) n_5) (fun v_9 h_9 q_9 => ?_)
  obtain ⟨rfl, F_9, s_9, l_9, n_9, k_9⟩ := q_9
  have l_9 := l_9.trans l_5
  have k_9 : h_9.2.2.1 = h.2.2.1 + (1535) := sl_add k_9 k_5
  refine r_putF (pc := 12) dX3_init_12 fX3_12 ⟨_, rfl, rfl⟩ rfl ((s_9 a (ad_0lt (j := 1) (by decide))).trans ((s_5 a (ad_0ne (j := 1) (by decide))).trans hx)) (Nat.le_trans (Nat.le_of_eq l_9) hlo) rfl rfl (Nat.le_of_ble_eq_true rfl) ?_
  refine rg_gen (fun h_12 o_12 s_12 l_12 n_12 k_12 => ?_)
  dsimp only [List.set] at o_12
  have n_12 := n_12.trans n_9
  have l_12 := l_12.trans l_9
  have k_12 : h_12.2.2.1 = h.2.2.1 + (1535) := k_12.trans k_9
  refine r_aload_n (pc := 15) dX3_init_15 rfl rfl ?_
  refine rg_newC (pc := 16) (z := a + 178) dX3_init_16 cX3_18 n_12 (fun h_16 o_16 s_16 l_16 n_16 k_16 => ?_)
  have l_16 := l_16.trans l_12
  have k_16 : h_16.2.2.1 = h.2.2.1 + (1537) := sl_add k_16 k_12
  refine r_dup (pc := 19) dX3_init_19 rfl ?_
  refine rj_sipush (pc := 20) dX3_init_20 (by decide +kernel) ?_
  refine r_callI1 (pc := 23) dX3_init_23 qX1_init rfl kX3_20 rfl iX1_init (Nat.le_of_ble_eq_true rfl) (ki_init _ hG (N := 160) (by decide) o_16 (Nat.le_trans (Nat.le_trans (Nat.le_of_eq l_16) hlo) (Nat.le_add_right _ _)) n_16) (fun v_23 h_23 q_23 => ?_)
  obtain ⟨rfl, F_23, s_23, l_23, n_23, k_23⟩ := q_23
  have l_23 := l_23.trans l_16
  have k_23 : h_23.2.2.1 = h.2.2.1 + (1697) := sl_add k_23 k_16
  refine r_putF (pc := 26) dX3_init_26 fX3_23 ⟨_, rfl, rfl⟩ rfl ((s_23 a (ad_0lt (j := 178) (by decide))).trans ((s_16 a (ad_0ne (j := 178) (by decide))).trans o_12)) (Nat.le_trans (Nat.le_of_eq l_23) hlo) rfl rfl (Nat.le_of_ble_eq_true rfl) ?_
  refine rg_gen (fun h_26 o_26 s_26 l_26 n_26 k_26 => ?_)
  dsimp only [List.set] at o_26
  have n_26 := n_26.trans n_23
  have l_26 := l_26.trans l_23
  have k_26 : h_26.2.2.1 = h.2.2.1 + (1697) := k_26.trans k_23
  refine r_return (pc := 29) dX3_init_29 rfl ?_
  have y := o_26
  try rw [J_0] at y
  have hW := F_9.keep2 (h' := h_26) ((l_26).trans l_9.symm) (fun b hb => by unfold wBlk at hb; exact ((s_26 b (by omega)).trans ((s_23 b (by omega)).trans ((s_16 b (by omega)).trans ((s_12 b (by omega)).trans rfl)))))
  exact ⟨rfl, ⟨(Nat.le_trans (Nat.le_of_eq l_26) hlo), y, hW, ⟨(Nat.le_trans (Nat.le_trans (Nat.le_of_eq l_26) hlo) (Nat.le_add_right _ _)), ((s_26 (a + 178) (ad_ne0 (i := 178) (by decide))).trans F_23.gx), ((s_26 (a + 179) (ad_ne0 (i := 179) (by decide))).trans F_23.gc)⟩⟩, fun b hb => ((s_26 b (Nat.ne_of_lt hb)).trans ((s_23 b (b_lt (j := 178) hb)).trans ((s_16 b (b_ne (j := 178) hb)).trans ((s_12 b (Nat.ne_of_lt hb)).trans ((s_9 b (b_lt (j := 1) hb)).trans ((s_5 b (b_ne (j := 1) hb)).trans rfl)))))), l_26, n_26, k_26⟩
theorem kR_le {a q : Nat} : a ≤ kR a q := by unfold kR; omega
theorem rr_0 {a : Nat} : (fun _ => none : Nat → Option Nat) = fun q => if q < 0 then some (kR a q) else none := by
  funext q
  simp
theorem rr_s {a i : Nat} : va_up (fun q => if q < i then some (kR a q) else none) i (some (kR a i)) = fun q => if q < i + 1 then some (kR a q) else none := by
  funext q
  show (if q = i then some (kR a i) else if q < i then some (kR a q) else none) = if q < i + 1 then some (kR a q) else none
  repeat' split
  all_goals first | rfl | (exfalso; omega) | (subst_vars; rfl)
theorem rb_ne {a b lo hi j : Nat} (hb : a + lo ≤ b ∧ b < a + lo + hi) (h : j < lo ∨ lo + hi ≤ j) : b ≠ a + j := by omega
theorem rb_lt {a b lo hi j : Nat} (hb : a + lo ≤ b ∧ b < a + lo + hi) (h : lo + hi ≤ j) : b < a + j := by omega
set_option maxHeartbeats 4000000 in
set_option maxRecDepth 100000 in
theorem k_X10 {G : mG} {l : Launch} (d : Nat) (hG : G.2.map Prod.snd = mTy) {h : mH} {a : Nat} (hx : hGet h a = some (.inl (10, [.null, .null, .null, .null, .null, .null, .null, .null, .null]))) (hlo : h.1 ≤ a) (hn : h.2.1 = a + 1) : RUNM G l (d + 5) mX10_init [.ref a] h (fun v h' => v = none ∧ isF h' a ∧ Grow a h h' ∧ h'.1 = h.1 ∧ h'.2.1 = a + 196 ∧ h'.2.2.1 = h.2.2.1 + 2121) := by
  refine RUNM.of (by decide +kernel) (Nat.le_of_ble_eq_true rfl) ?_
  refine r_aload_n (pc := 0) dX10_init_0 rfl rfl ?_
  refine r_objInit (pc := 1) dX10_init_1 kX10_3 (Nat.le_of_ble_eq_true rfl) ?_
  refine r_aload_n (pc := 4) dX10_init_4 rfl rfl ?_
  refine rg_newC (pc := 5) (z := a + 1) dX10_init_5 cX10_9 hn (fun h_5 o_5 s_5 l_5 n_5 k_5 => ?_)
  have k_5 : h_5.2.2.1 = h.2.2.1 + (4) := sl_add k_5 sl_0
  refine r_dup (pc := 8) dX10_init_8 rfl ?_
  refine r_callI0 (pc := 9) dX10_init_9 qX2_init rfl kX10_11 rfl iX2_init (Nat.le_of_ble_eq_true rfl) (k_X2 _ hG o_5 (Nat.le_trans (Nat.le_trans (Nat.le_of_eq l_5) hlo) (Nat.le_add_right _ _)) n_5) (fun v_9 h_9 q_9 => ?_)
  obtain ⟨rfl, F_9, s_9, l_9, n_9, k_9⟩ := q_9
  have l_9 := l_9.trans l_5
  have k_9 : h_9.2.2.1 = h.2.2.1 + (126) := sl_add k_9 k_5
  refine r_putF (pc := 12) dX10_init_12 fX10_12 ⟨_, rfl, rfl⟩ rfl ((s_9 a (ad_0lt (j := 1) (by decide))).trans ((s_5 a (ad_0ne (j := 1) (by decide))).trans hx)) (Nat.le_trans (Nat.le_of_eq l_9) hlo) rfl rfl (Nat.le_of_ble_eq_true rfl) ?_
  refine rg_gen (fun h_12 o_12 s_12 l_12 n_12 k_12 => ?_)
  dsimp only [List.set] at o_12
  have n_12 := n_12.trans n_9
  have l_12 := l_12.trans l_9
  have k_12 : h_12.2.2.1 = h.2.2.1 + (126) := k_12.trans k_9
  refine r_aload_n (pc := 15) dX10_init_15 rfl rfl ?_
  refine r_aload_n (pc := 16) dX10_init_16 rfl rfl ?_
  refine r_getf (pc := 17) dX10_init_17 fX10_12 o_12 rfl ?_
  refine r_getf (pc := 20) dX10_init_20 fX10_18 ((s_12 (a + 1) (ad_ne0 (i := 1) (by decide))).trans F_9.gx) rfl ?_
  refine r_putF (pc := 23) dX10_init_23 fX10_22 ⟨_, rfl, rfl⟩ rfl o_12 (Nat.le_trans (Nat.le_of_eq l_12) hlo) rfl rfl (Nat.le_of_ble_eq_true rfl) ?_
  refine rg_gen (fun h_23 o_23 s_23 l_23 n_23 k_23 => ?_)
  dsimp only [List.set] at o_23
  have n_23 := n_23.trans n_12
  have l_23 := l_23.trans l_12
  have k_23 : h_23.2.2.1 = h.2.2.1 + (126) := k_23.trans k_12
  refine r_aload_n (pc := 26) dX10_init_26 rfl rfl ?_
  refine rg_newC (pc := 27) (z := a + 4) dX10_init_27 cX10_23 n_23 (fun h_27 o_27 s_27 l_27 n_27 k_27 => ?_)
  have l_27 := l_27.trans l_23
  have k_27 : h_27.2.2.1 = h.2.2.1 + (127) := sl_add k_27 k_23
  refine r_dup (pc := 30) dX10_init_30 rfl ?_
  refine r_callI0 (pc := 31) dX10_init_31 qX5_init rfl kX10_25 rfl iX5_init (Nat.le_of_ble_eq_true rfl) (k_X5 _ hG o_27 (Nat.le_trans (Nat.le_trans (Nat.le_of_eq l_27) hlo) (Nat.le_add_right _ _)) n_27) (fun v_31 h_31 q_31 => ?_)
  obtain ⟨rfl, F_31, s_31, l_31, n_31, k_31⟩ := q_31
  have l_31 := l_31.trans l_27
  have k_31 : h_31.2.2.1 = h.2.2.1 + (249) := sl_add k_31 k_27
  refine r_putF (pc := 34) dX10_init_34 fX10_26 ⟨_, rfl, rfl⟩ rfl ((s_31 a (ad_0lt (j := 4) (by decide))).trans ((s_27 a (ad_0ne (j := 4) (by decide))).trans o_23)) (Nat.le_trans (Nat.le_of_eq l_31) hlo) rfl rfl (Nat.le_of_ble_eq_true rfl) ?_
  refine rg_gen (fun h_34 o_34 s_34 l_34 n_34 k_34 => ?_)
  dsimp only [List.set] at o_34
  have n_34 := n_34.trans n_31
  have l_34 := l_34.trans l_31
  have k_34 : h_34.2.2.1 = h.2.2.1 + (249) := k_34.trans k_31
  refine r_aload_n (pc := 37) dX10_init_37 rfl rfl ?_
  refine r_aload_n (pc := 38) dX10_init_38 rfl rfl ?_
  refine r_getf (pc := 39) dX10_init_39 fX10_26 o_34 rfl ?_
  refine r_getf (pc := 42) dX10_init_42 fX10_30 ((s_34 (a + 4) (ad_ne0 (i := 4) (by decide))).trans F_31.gx) rfl ?_
  refine r_putF (pc := 45) dX10_init_45 fX10_33 ⟨_, rfl, rfl⟩ rfl o_34 (Nat.le_trans (Nat.le_of_eq l_34) hlo) rfl rfl (Nat.le_of_ble_eq_true rfl) ?_
  refine rg_gen (fun h_45 o_45 s_45 l_45 n_45 k_45 => ?_)
  dsimp only [List.set] at o_45
  have n_45 := n_45.trans n_34
  have l_45 := l_45.trans l_34
  have k_45 : h_45.2.2.1 = h.2.2.1 + (249) := k_45.trans k_34
  refine r_aload_n (pc := 48) dX10_init_48 rfl rfl ?_
  refine rj_iconst (pc := 49) dX10_init_49 ?_
  refine rg_newaR (pc := 50) (z := a + 7) (t := 1) dX10_init_50 hG rfl aX10_34 w_Ints n_45 (by decide) (by decide) (fun h_50 o_50 s_50 l_50 n_50 k_50 => ?_)
  have l_50 := l_50.trans l_45
  have k_50 : h_50.2.2.1 = h.2.2.1 + (253) := sl_add k_50 k_45
  refine r_putF (pc := 53) dX10_init_53 fX10_36 ⟨_, rfl, rfl⟩ rfl ((s_50 a (ad_0ne (j := 7) (by decide))).trans o_45) (Nat.le_trans (Nat.le_of_eq l_50) hlo) rfl rfl (Nat.le_of_ble_eq_true rfl) ?_
  refine rg_gen (fun h_53 o_53 s_53 l_53 n_53 k_53 => ?_)
  dsimp only [List.set] at o_53
  have n_53 := n_53.trans n_50
  have l_53 := l_53.trans l_50
  have k_53 : h_53.2.2.1 = h.2.2.1 + (253) := k_53.trans k_50
  refine r_aload_n (pc := 56) dX10_init_56 rfl rfl ?_
  refine rg_newC (pc := 57) (z := a + 8) dX10_init_57 cX10_40 n_53 (fun h_57 o_57 s_57 l_57 n_57 k_57 => ?_)
  have l_57 := l_57.trans l_53
  have k_57 : h_57.2.2.1 = h.2.2.1 + (256) := sl_add k_57 k_53
  refine r_dup (pc := 60) dX10_init_60 rfl ?_
  refine r_callI0 (pc := 61) dX10_init_61 qX3_init rfl kX10_42 rfl iX3_init (Nat.le_of_ble_eq_true rfl) (k_X3 _ hG o_57 (Nat.le_trans (Nat.le_trans (Nat.le_of_eq l_57) hlo) (Nat.le_add_right _ _)) n_57) (fun v_61 h_61 q_61 => ?_)
  obtain ⟨rfl, F_61, s_61, l_61, n_61, k_61⟩ := q_61
  have l_61 := l_61.trans l_57
  have k_61 : h_61.2.2.1 = h.2.2.1 + (1953) := sl_add k_61 k_57
  refine r_putF (pc := 64) dX10_init_64 fX10_43 ⟨_, rfl, rfl⟩ rfl ((s_61 a (ad_0lt (j := 8) (by decide))).trans ((s_57 a (ad_0ne (j := 8) (by decide))).trans o_53)) (Nat.le_trans (Nat.le_of_eq l_61) hlo) rfl rfl (Nat.le_of_ble_eq_true rfl) ?_
  refine rg_gen (fun h_64 o_64 s_64 l_64 n_64 k_64 => ?_)
  dsimp only [List.set] at o_64
  have n_64 := n_64.trans n_61
  have l_64 := l_64.trans l_61
  have k_64 : h_64.2.2.1 = h.2.2.1 + (1953) := k_64.trans k_61
  refine r_aload_n (pc := 67) dX10_init_67 rfl rfl ?_
  refine r_aload_n (pc := 68) dX10_init_68 rfl rfl ?_
  refine r_getf (pc := 69) dX10_init_69 fX10_43 o_64 rfl ?_
  refine r_getf (pc := 72) dX10_init_72 fX10_47 ((s_64 (a + 8) (ad_ne0 (i := 8) (by decide))).trans F_61.gx) rfl ?_
  refine r_putF (pc := 75) dX10_init_75 fX10_51 ⟨_, rfl, rfl⟩ rfl o_64 (Nat.le_trans (Nat.le_of_eq l_64) hlo) rfl rfl (Nat.le_of_ble_eq_true rfl) ?_
  refine rg_gen (fun h_75 o_75 s_75 l_75 n_75 k_75 => ?_)
  dsimp only [List.set] at o_75
  have n_75 := n_75.trans n_64
  have l_75 := l_75.trans l_64
  have k_75 : h_75.2.2.1 = h.2.2.1 + (1953) := k_75.trans k_64
  refine rj_iconst (pc := 78) dX10_init_78 ?_
  refine r_istore_n (pc := 79) dX10_init_79 (Nat.le_of_ble_eq_true rfl) ?_
  dsimp only [lsSt, List.set, mLs, mEnt]
  have ar := ((s_75 (a + 7) (ad_ne0 (i := 7) (by decide))).trans ((s_64 (a + 7) (ad_ne0 (i := 7) (by decide))).trans ((s_61 (a + 7) (ad_lt (i := 7) (j := 8) (by decide))).trans ((s_57 (a + 7) (ad_ne (i := 7) (j := 8) (by decide))).trans ((s_53 (a + 7) (ad_ne0 (i := 7) (by decide))).trans o_50)))))
  rw [rr_0 (a := a)] at ar
  refine r_iload_n (pc := 80) dX10_init_80 rfl ?_
  refine r_aload_n (pc := 81) dX10_init_81 rfl rfl ?_
  refine r_getf (pc := 82) dX10_init_82 fX10_36 o_75 rfl ?_
  refine rj_alenR (pc := 85) dX10_init_85 ar ?_
  refine rj_icmp_ge (pc := 86) (tgt := 121) dX10_init_86 (by decide) (by decide) (by decide) (fun c_86 => absurd c_86 (by decide)) (fun c_86 => ?_)
  refine r_aload_n (pc := 89) dX10_init_89 rfl rfl ?_
  refine r_getf (pc := 90) dX10_init_90 fX10_36 o_75 rfl ?_
  refine r_iload_n (pc := 93) dX10_init_93 rfl ?_
  refine rg_newC (pc := 94) (z := a + 188) dX10_init_94 cX10_34 n_75 (fun h_0n o_0n s_0n l_0n n_0n k_0n => ?_)
  have l_0n := l_0n.trans l_75
  have k_0n : h_0n.2.2.1 = h.2.2.1 + (1955) := sl_add k_0n k_75
  refine r_dup (pc := 97) dX10_init_97 rfl ?_
  refine rj_bipush (pc := 98) dX10_init_98 (by decide +kernel) ?_
  refine r_callI1 (pc := 100) dX10_init_100 qX1_init rfl kX10_52 rfl iX1_init (Nat.le_of_ble_eq_true rfl) (ki_init _ hG (N := 40) (by decide) o_0n (Nat.le_trans (Nat.le_trans (Nat.le_of_eq l_0n) hlo) (Nat.le_add_right _ _)) n_0n) (fun v_0i h_0i q_0i => ?_)
  obtain ⟨rfl, F_0i, s_0i, l_0i, n_0i, k_0i⟩ := q_0i
  have l_0i := l_0i.trans l_0n
  have k_0i : h_0i.2.2.1 = h.2.2.1 + (1995) := sl_add k_0i k_0n
  refine rg_aast (pc := 103) dX10_init_103 ((s_0i (a + 7) (ad_lt (i := 7) (j := 188) (by decide))).trans ((s_0n (a + 7) (ad_ne (i := 7) (j := 188) (by decide))).trans ar)) F_0i.gx rfl hG rfl (Nat.le_trans (Nat.le_trans (Nat.le_of_eq l_0i) hlo) (Nat.le_add_right _ _)) (by decide) (by decide) (by decide) (fun h_0s o_0s s_0s l_0s n_0s k_0s => ?_)
  have n_0s := n_0s.trans n_0i
  have l_0s := l_0s.trans l_0i
  have k_0s : h_0s.2.2.1 = h.2.2.1 + (1995) := k_0s.trans k_0i
  have a_0s : hGet h_0s (a + 7) = some (.inr (.inr (1, 4, fun q => if q < 1 then some (kR a q) else none))) := o_0s.trans (congrArg (fun z => some (Sum.inr (Sum.inr (1, 4, z)))) (rr_s (a := a) (i := 0)))
  refine r_aload_n (pc := 104) dX10_init_104 rfl rfl ?_
  refine r_getf (pc := 105) dX10_init_105 fX10_36 ((s_0s a (ad_0ne (j := 7) (by decide))).trans ((s_0i a (ad_0lt (j := 188) (by decide))).trans ((s_0n a (ad_0ne (j := 188) (by decide))).trans o_75))) rfl ?_
  refine r_iload_n (pc := 108) dX10_init_108 rfl ?_
  refine rg_aald (pc := 109) (b := a + 188) dX10_init_109 a_0s (by decide) (by decide) (by decide) rfl ?_
  refine rj_bipush (pc := 110) dX10_init_110 (by decide +kernel) ?_
  refine r_putf (pc := 112) dX10_init_112 fX10_55 ((s_0s (a + 188) (ad_ne (i := 188) (j := 7) (by decide))).trans F_0i.gx) (Nat.le_trans (Nat.le_trans (Nat.le_of_eq l_0s) hlo) (Nat.le_add_right _ _)) rfl rfl (Nat.le_of_ble_eq_true rfl) ?_
  refine rg_gen (fun h_0z o_0z s_0z l_0z n_0z k_0z => ?_)
  dsimp only [List.set] at o_0z
  have n_0z := n_0z.trans n_0s
  have l_0z := l_0z.trans l_0s
  have k_0z : h_0z.2.2.1 = h.2.2.1 + (1995) := k_0z.trans k_0s
  refine rj_iinc (pc := 115) dX10_init_115 (Nat.le_of_ble_eq_true rfl) rfl ?_
  dsimp only [lsSt, List.set, mLs, mEnt]
  refine r_goto (pc := 118) (tgt := 80) dX10_init_118 (by decide) ?_
  refine r_iload_n (pc := 80) dX10_init_80 rfl ?_
  refine r_aload_n (pc := 81) dX10_init_81 rfl rfl ?_
  refine r_getf (pc := 82) dX10_init_82 fX10_36 ((s_0z a (ad_0ne (j := 188) (by decide))).trans ((s_0s a (ad_0ne (j := 7) (by decide))).trans ((s_0i a (ad_0lt (j := 188) (by decide))).trans ((s_0n a (ad_0ne (j := 188) (by decide))).trans o_75)))) rfl ?_
  refine rj_alenR (pc := 85) dX10_init_85 ((s_0z (a + 7) (ad_ne (i := 7) (j := 188) (by decide))).trans a_0s) ?_
  refine rj_icmp_ge (pc := 86) (tgt := 121) dX10_init_86 (by decide) (by decide) (by decide) (fun c_86 => absurd c_86 (by decide)) (fun c_86 => ?_)
  refine r_aload_n (pc := 89) dX10_init_89 rfl rfl ?_
  refine r_getf (pc := 90) dX10_init_90 fX10_36 ((s_0z a (ad_0ne (j := 188) (by decide))).trans ((s_0s a (ad_0ne (j := 7) (by decide))).trans ((s_0i a (ad_0lt (j := 188) (by decide))).trans ((s_0n a (ad_0ne (j := 188) (by decide))).trans o_75)))) rfl ?_
  refine r_iload_n (pc := 93) dX10_init_93 rfl ?_
  refine rg_newC (pc := 94) (z := a + 190) dX10_init_94 cX10_34 n_0z (fun h_1n o_1n s_1n l_1n n_1n k_1n => ?_)
  have l_1n := l_1n.trans l_0z
  have k_1n : h_1n.2.2.1 = h.2.2.1 + (1997) := sl_add k_1n k_0z
  refine r_dup (pc := 97) dX10_init_97 rfl ?_
  refine rj_bipush (pc := 98) dX10_init_98 (by decide +kernel) ?_
  refine r_callI1 (pc := 100) dX10_init_100 qX1_init rfl kX10_52 rfl iX1_init (Nat.le_of_ble_eq_true rfl) (ki_init _ hG (N := 40) (by decide) o_1n (Nat.le_trans (Nat.le_trans (Nat.le_of_eq l_1n) hlo) (Nat.le_add_right _ _)) n_1n) (fun v_1i h_1i q_1i => ?_)
  obtain ⟨rfl, F_1i, s_1i, l_1i, n_1i, k_1i⟩ := q_1i
  have l_1i := l_1i.trans l_1n
  have k_1i : h_1i.2.2.1 = h.2.2.1 + (2037) := sl_add k_1i k_1n
  refine rg_aast (pc := 103) dX10_init_103 ((s_1i (a + 7) (ad_lt (i := 7) (j := 190) (by decide))).trans ((s_1n (a + 7) (ad_ne (i := 7) (j := 190) (by decide))).trans ((s_0z (a + 7) (ad_ne (i := 7) (j := 188) (by decide))).trans a_0s))) F_1i.gx rfl hG rfl (Nat.le_trans (Nat.le_trans (Nat.le_of_eq l_1i) hlo) (Nat.le_add_right _ _)) (by decide) (by decide) (by decide) (fun h_1s o_1s s_1s l_1s n_1s k_1s => ?_)
  have n_1s := n_1s.trans n_1i
  have l_1s := l_1s.trans l_1i
  have k_1s : h_1s.2.2.1 = h.2.2.1 + (2037) := k_1s.trans k_1i
  have a_1s : hGet h_1s (a + 7) = some (.inr (.inr (1, 4, fun q => if q < 2 then some (kR a q) else none))) := o_1s.trans (congrArg (fun z => some (Sum.inr (Sum.inr (1, 4, z)))) (rr_s (a := a) (i := 1)))
  refine r_aload_n (pc := 104) dX10_init_104 rfl rfl ?_
  refine r_getf (pc := 105) dX10_init_105 fX10_36 ((s_1s a (ad_0ne (j := 7) (by decide))).trans ((s_1i a (ad_0lt (j := 190) (by decide))).trans ((s_1n a (ad_0ne (j := 190) (by decide))).trans ((s_0z a (ad_0ne (j := 188) (by decide))).trans ((s_0s a (ad_0ne (j := 7) (by decide))).trans ((s_0i a (ad_0lt (j := 188) (by decide))).trans ((s_0n a (ad_0ne (j := 188) (by decide))).trans o_75))))))) rfl ?_
  refine r_iload_n (pc := 108) dX10_init_108 rfl ?_
  refine rg_aald (pc := 109) (b := a + 190) dX10_init_109 a_1s (by decide) (by decide) (by decide) rfl ?_
  refine rj_bipush (pc := 110) dX10_init_110 (by decide +kernel) ?_
  refine r_putf (pc := 112) dX10_init_112 fX10_55 ((s_1s (a + 190) (ad_ne (i := 190) (j := 7) (by decide))).trans F_1i.gx) (Nat.le_trans (Nat.le_trans (Nat.le_of_eq l_1s) hlo) (Nat.le_add_right _ _)) rfl rfl (Nat.le_of_ble_eq_true rfl) ?_
  refine rg_gen (fun h_1z o_1z s_1z l_1z n_1z k_1z => ?_)
  dsimp only [List.set] at o_1z
  have n_1z := n_1z.trans n_1s
  have l_1z := l_1z.trans l_1s
  have k_1z : h_1z.2.2.1 = h.2.2.1 + (2037) := k_1z.trans k_1s
  refine rj_iinc (pc := 115) dX10_init_115 (Nat.le_of_ble_eq_true rfl) rfl ?_
  dsimp only [lsSt, List.set, mLs, mEnt]
  refine r_goto (pc := 118) (tgt := 80) dX10_init_118 (by decide) ?_
  refine r_iload_n (pc := 80) dX10_init_80 rfl ?_
  refine r_aload_n (pc := 81) dX10_init_81 rfl rfl ?_
  refine r_getf (pc := 82) dX10_init_82 fX10_36 ((s_1z a (ad_0ne (j := 190) (by decide))).trans ((s_1s a (ad_0ne (j := 7) (by decide))).trans ((s_1i a (ad_0lt (j := 190) (by decide))).trans ((s_1n a (ad_0ne (j := 190) (by decide))).trans ((s_0z a (ad_0ne (j := 188) (by decide))).trans ((s_0s a (ad_0ne (j := 7) (by decide))).trans ((s_0i a (ad_0lt (j := 188) (by decide))).trans ((s_0n a (ad_0ne (j := 188) (by decide))).trans o_75)))))))) rfl ?_
  refine rj_alenR (pc := 85) dX10_init_85 ((s_1z (a + 7) (ad_ne (i := 7) (j := 190) (by decide))).trans a_1s) ?_
  refine rj_icmp_ge (pc := 86) (tgt := 121) dX10_init_86 (by decide) (by decide) (by decide) (fun c_86 => absurd c_86 (by decide)) (fun c_86 => ?_)
  refine r_aload_n (pc := 89) dX10_init_89 rfl rfl ?_
  refine r_getf (pc := 90) dX10_init_90 fX10_36 ((s_1z a (ad_0ne (j := 190) (by decide))).trans ((s_1s a (ad_0ne (j := 7) (by decide))).trans ((s_1i a (ad_0lt (j := 190) (by decide))).trans ((s_1n a (ad_0ne (j := 190) (by decide))).trans ((s_0z a (ad_0ne (j := 188) (by decide))).trans ((s_0s a (ad_0ne (j := 7) (by decide))).trans ((s_0i a (ad_0lt (j := 188) (by decide))).trans ((s_0n a (ad_0ne (j := 188) (by decide))).trans o_75)))))))) rfl ?_
  refine r_iload_n (pc := 93) dX10_init_93 rfl ?_
  refine rg_newC (pc := 94) (z := a + 192) dX10_init_94 cX10_34 n_1z (fun h_2n o_2n s_2n l_2n n_2n k_2n => ?_)
  have l_2n := l_2n.trans l_1z
  have k_2n : h_2n.2.2.1 = h.2.2.1 + (2039) := sl_add k_2n k_1z
  refine r_dup (pc := 97) dX10_init_97 rfl ?_
  refine rj_bipush (pc := 98) dX10_init_98 (by decide +kernel) ?_
  refine r_callI1 (pc := 100) dX10_init_100 qX1_init rfl kX10_52 rfl iX1_init (Nat.le_of_ble_eq_true rfl) (ki_init _ hG (N := 40) (by decide) o_2n (Nat.le_trans (Nat.le_trans (Nat.le_of_eq l_2n) hlo) (Nat.le_add_right _ _)) n_2n) (fun v_2i h_2i q_2i => ?_)
  obtain ⟨rfl, F_2i, s_2i, l_2i, n_2i, k_2i⟩ := q_2i
  have l_2i := l_2i.trans l_2n
  have k_2i : h_2i.2.2.1 = h.2.2.1 + (2079) := sl_add k_2i k_2n
  refine rg_aast (pc := 103) dX10_init_103 ((s_2i (a + 7) (ad_lt (i := 7) (j := 192) (by decide))).trans ((s_2n (a + 7) (ad_ne (i := 7) (j := 192) (by decide))).trans ((s_1z (a + 7) (ad_ne (i := 7) (j := 190) (by decide))).trans a_1s))) F_2i.gx rfl hG rfl (Nat.le_trans (Nat.le_trans (Nat.le_of_eq l_2i) hlo) (Nat.le_add_right _ _)) (by decide) (by decide) (by decide) (fun h_2s o_2s s_2s l_2s n_2s k_2s => ?_)
  have n_2s := n_2s.trans n_2i
  have l_2s := l_2s.trans l_2i
  have k_2s : h_2s.2.2.1 = h.2.2.1 + (2079) := k_2s.trans k_2i
  have a_2s : hGet h_2s (a + 7) = some (.inr (.inr (1, 4, fun q => if q < 3 then some (kR a q) else none))) := o_2s.trans (congrArg (fun z => some (Sum.inr (Sum.inr (1, 4, z)))) (rr_s (a := a) (i := 2)))
  refine r_aload_n (pc := 104) dX10_init_104 rfl rfl ?_
  refine r_getf (pc := 105) dX10_init_105 fX10_36 ((s_2s a (ad_0ne (j := 7) (by decide))).trans ((s_2i a (ad_0lt (j := 192) (by decide))).trans ((s_2n a (ad_0ne (j := 192) (by decide))).trans ((s_1z a (ad_0ne (j := 190) (by decide))).trans ((s_1s a (ad_0ne (j := 7) (by decide))).trans ((s_1i a (ad_0lt (j := 190) (by decide))).trans ((s_1n a (ad_0ne (j := 190) (by decide))).trans ((s_0z a (ad_0ne (j := 188) (by decide))).trans ((s_0s a (ad_0ne (j := 7) (by decide))).trans ((s_0i a (ad_0lt (j := 188) (by decide))).trans ((s_0n a (ad_0ne (j := 188) (by decide))).trans o_75))))))))))) rfl ?_
  refine r_iload_n (pc := 108) dX10_init_108 rfl ?_
  refine rg_aald (pc := 109) (b := a + 192) dX10_init_109 a_2s (by decide) (by decide) (by decide) rfl ?_
  refine rj_bipush (pc := 110) dX10_init_110 (by decide +kernel) ?_
  refine r_putf (pc := 112) dX10_init_112 fX10_55 ((s_2s (a + 192) (ad_ne (i := 192) (j := 7) (by decide))).trans F_2i.gx) (Nat.le_trans (Nat.le_trans (Nat.le_of_eq l_2s) hlo) (Nat.le_add_right _ _)) rfl rfl (Nat.le_of_ble_eq_true rfl) ?_
  refine rg_gen (fun h_2z o_2z s_2z l_2z n_2z k_2z => ?_)
  dsimp only [List.set] at o_2z
  have n_2z := n_2z.trans n_2s
  have l_2z := l_2z.trans l_2s
  have k_2z : h_2z.2.2.1 = h.2.2.1 + (2079) := k_2z.trans k_2s
  refine rj_iinc (pc := 115) dX10_init_115 (Nat.le_of_ble_eq_true rfl) rfl ?_
  dsimp only [lsSt, List.set, mLs, mEnt]
  refine r_goto (pc := 118) (tgt := 80) dX10_init_118 (by decide) ?_
  refine r_iload_n (pc := 80) dX10_init_80 rfl ?_
  refine r_aload_n (pc := 81) dX10_init_81 rfl rfl ?_
  refine r_getf (pc := 82) dX10_init_82 fX10_36 ((s_2z a (ad_0ne (j := 192) (by decide))).trans ((s_2s a (ad_0ne (j := 7) (by decide))).trans ((s_2i a (ad_0lt (j := 192) (by decide))).trans ((s_2n a (ad_0ne (j := 192) (by decide))).trans ((s_1z a (ad_0ne (j := 190) (by decide))).trans ((s_1s a (ad_0ne (j := 7) (by decide))).trans ((s_1i a (ad_0lt (j := 190) (by decide))).trans ((s_1n a (ad_0ne (j := 190) (by decide))).trans ((s_0z a (ad_0ne (j := 188) (by decide))).trans ((s_0s a (ad_0ne (j := 7) (by decide))).trans ((s_0i a (ad_0lt (j := 188) (by decide))).trans ((s_0n a (ad_0ne (j := 188) (by decide))).trans o_75)))))))))))) rfl ?_
  refine rj_alenR (pc := 85) dX10_init_85 ((s_2z (a + 7) (ad_ne (i := 7) (j := 192) (by decide))).trans a_2s) ?_
  refine rj_icmp_ge (pc := 86) (tgt := 121) dX10_init_86 (by decide) (by decide) (by decide) (fun c_86 => absurd c_86 (by decide)) (fun c_86 => ?_)
  refine r_aload_n (pc := 89) dX10_init_89 rfl rfl ?_
  refine r_getf (pc := 90) dX10_init_90 fX10_36 ((s_2z a (ad_0ne (j := 192) (by decide))).trans ((s_2s a (ad_0ne (j := 7) (by decide))).trans ((s_2i a (ad_0lt (j := 192) (by decide))).trans ((s_2n a (ad_0ne (j := 192) (by decide))).trans ((s_1z a (ad_0ne (j := 190) (by decide))).trans ((s_1s a (ad_0ne (j := 7) (by decide))).trans ((s_1i a (ad_0lt (j := 190) (by decide))).trans ((s_1n a (ad_0ne (j := 190) (by decide))).trans ((s_0z a (ad_0ne (j := 188) (by decide))).trans ((s_0s a (ad_0ne (j := 7) (by decide))).trans ((s_0i a (ad_0lt (j := 188) (by decide))).trans ((s_0n a (ad_0ne (j := 188) (by decide))).trans o_75)))))))))))) rfl ?_
  refine r_iload_n (pc := 93) dX10_init_93 rfl ?_
  refine rg_newC (pc := 94) (z := a + 194) dX10_init_94 cX10_34 n_2z (fun h_3n o_3n s_3n l_3n n_3n k_3n => ?_)
  have l_3n := l_3n.trans l_2z
  have k_3n : h_3n.2.2.1 = h.2.2.1 + (2081) := sl_add k_3n k_2z
  refine r_dup (pc := 97) dX10_init_97 rfl ?_
  refine rj_bipush (pc := 98) dX10_init_98 (by decide +kernel) ?_
  refine r_callI1 (pc := 100) dX10_init_100 qX1_init rfl kX10_52 rfl iX1_init (Nat.le_of_ble_eq_true rfl) (ki_init _ hG (N := 40) (by decide) o_3n (Nat.le_trans (Nat.le_trans (Nat.le_of_eq l_3n) hlo) (Nat.le_add_right _ _)) n_3n) (fun v_3i h_3i q_3i => ?_)
  obtain ⟨rfl, F_3i, s_3i, l_3i, n_3i, k_3i⟩ := q_3i
  have l_3i := l_3i.trans l_3n
  have k_3i : h_3i.2.2.1 = h.2.2.1 + (2121) := sl_add k_3i k_3n
  refine rg_aast (pc := 103) dX10_init_103 ((s_3i (a + 7) (ad_lt (i := 7) (j := 194) (by decide))).trans ((s_3n (a + 7) (ad_ne (i := 7) (j := 194) (by decide))).trans ((s_2z (a + 7) (ad_ne (i := 7) (j := 192) (by decide))).trans a_2s))) F_3i.gx rfl hG rfl (Nat.le_trans (Nat.le_trans (Nat.le_of_eq l_3i) hlo) (Nat.le_add_right _ _)) (by decide) (by decide) (by decide) (fun h_3s o_3s s_3s l_3s n_3s k_3s => ?_)
  have n_3s := n_3s.trans n_3i
  have l_3s := l_3s.trans l_3i
  have k_3s : h_3s.2.2.1 = h.2.2.1 + (2121) := k_3s.trans k_3i
  have a_3s : hGet h_3s (a + 7) = some (.inr (.inr (1, 4, fun q => if q < 4 then some (kR a q) else none))) := o_3s.trans (congrArg (fun z => some (Sum.inr (Sum.inr (1, 4, z)))) (rr_s (a := a) (i := 3)))
  refine r_aload_n (pc := 104) dX10_init_104 rfl rfl ?_
  refine r_getf (pc := 105) dX10_init_105 fX10_36 ((s_3s a (ad_0ne (j := 7) (by decide))).trans ((s_3i a (ad_0lt (j := 194) (by decide))).trans ((s_3n a (ad_0ne (j := 194) (by decide))).trans ((s_2z a (ad_0ne (j := 192) (by decide))).trans ((s_2s a (ad_0ne (j := 7) (by decide))).trans ((s_2i a (ad_0lt (j := 192) (by decide))).trans ((s_2n a (ad_0ne (j := 192) (by decide))).trans ((s_1z a (ad_0ne (j := 190) (by decide))).trans ((s_1s a (ad_0ne (j := 7) (by decide))).trans ((s_1i a (ad_0lt (j := 190) (by decide))).trans ((s_1n a (ad_0ne (j := 190) (by decide))).trans ((s_0z a (ad_0ne (j := 188) (by decide))).trans ((s_0s a (ad_0ne (j := 7) (by decide))).trans ((s_0i a (ad_0lt (j := 188) (by decide))).trans ((s_0n a (ad_0ne (j := 188) (by decide))).trans o_75))))))))))))))) rfl ?_
  refine r_iload_n (pc := 108) dX10_init_108 rfl ?_
  refine rg_aald (pc := 109) (b := a + 194) dX10_init_109 a_3s (by decide) (by decide) (by decide) rfl ?_
  refine rj_bipush (pc := 110) dX10_init_110 (by decide +kernel) ?_
  refine r_putf (pc := 112) dX10_init_112 fX10_55 ((s_3s (a + 194) (ad_ne (i := 194) (j := 7) (by decide))).trans F_3i.gx) (Nat.le_trans (Nat.le_trans (Nat.le_of_eq l_3s) hlo) (Nat.le_add_right _ _)) rfl rfl (Nat.le_of_ble_eq_true rfl) ?_
  refine rg_gen (fun h_3z o_3z s_3z l_3z n_3z k_3z => ?_)
  dsimp only [List.set] at o_3z
  have n_3z := n_3z.trans n_3s
  have l_3z := l_3z.trans l_3s
  have k_3z : h_3z.2.2.1 = h.2.2.1 + (2121) := k_3z.trans k_3s
  refine rj_iinc (pc := 115) dX10_init_115 (Nat.le_of_ble_eq_true rfl) rfl ?_
  dsimp only [lsSt, List.set, mLs, mEnt]
  refine r_goto (pc := 118) (tgt := 80) dX10_init_118 (by decide) ?_
  refine r_iload_n (pc := 80) dX10_init_80 rfl ?_
  refine r_aload_n (pc := 81) dX10_init_81 rfl rfl ?_
  refine r_getf (pc := 82) dX10_init_82 fX10_36 ((s_3z a (ad_0ne (j := 194) (by decide))).trans ((s_3s a (ad_0ne (j := 7) (by decide))).trans ((s_3i a (ad_0lt (j := 194) (by decide))).trans ((s_3n a (ad_0ne (j := 194) (by decide))).trans ((s_2z a (ad_0ne (j := 192) (by decide))).trans ((s_2s a (ad_0ne (j := 7) (by decide))).trans ((s_2i a (ad_0lt (j := 192) (by decide))).trans ((s_2n a (ad_0ne (j := 192) (by decide))).trans ((s_1z a (ad_0ne (j := 190) (by decide))).trans ((s_1s a (ad_0ne (j := 7) (by decide))).trans ((s_1i a (ad_0lt (j := 190) (by decide))).trans ((s_1n a (ad_0ne (j := 190) (by decide))).trans ((s_0z a (ad_0ne (j := 188) (by decide))).trans ((s_0s a (ad_0ne (j := 7) (by decide))).trans ((s_0i a (ad_0lt (j := 188) (by decide))).trans ((s_0n a (ad_0ne (j := 188) (by decide))).trans o_75)))))))))))))))) rfl ?_
  refine rj_alenR (pc := 85) dX10_init_85 ((s_3z (a + 7) (ad_ne (i := 7) (j := 194) (by decide))).trans a_3s) ?_
  refine rj_icmp_ge (pc := 86) (tgt := 121) dX10_init_86 (by decide) (by decide) (by decide) (fun c_86 => ?_) (fun c_86 => absurd (by decide) c_86)
  refine r_return (pc := 121) dX10_init_121 rfl ?_
  have hD := F_9.keep2 (h' := h_3z) ((l_3z).trans l_9.symm) (fun b hb => by unfold dBlk at hb; exact ((s_3z b (rb_ne (j := 194) hb (by decide))).trans ((s_3s b (rb_ne (j := 7) hb (by decide))).trans ((s_3i b (rb_lt (j := 194) hb (by decide))).trans ((s_3n b (rb_ne (j := 194) hb (by decide))).trans ((s_2z b (rb_ne (j := 192) hb (by decide))).trans ((s_2s b (rb_ne (j := 7) hb (by decide))).trans ((s_2i b (rb_lt (j := 192) hb (by decide))).trans ((s_2n b (rb_ne (j := 192) hb (by decide))).trans ((s_1z b (rb_ne (j := 190) hb (by decide))).trans ((s_1s b (rb_ne (j := 7) hb (by decide))).trans ((s_1i b (rb_lt (j := 190) hb (by decide))).trans ((s_1n b (rb_ne (j := 190) hb (by decide))).trans ((s_0z b (rb_ne (j := 188) hb (by decide))).trans ((s_0s b (rb_ne (j := 7) hb (by decide))).trans ((s_0i b (rb_lt (j := 188) hb (by decide))).trans ((s_0n b (rb_ne (j := 188) hb (by decide))).trans ((s_75 b (rb_ne (j := 0) hb (by decide))).trans ((s_64 b (rb_ne (j := 0) hb (by decide))).trans ((s_61 b (rb_lt (j := 8) hb (by decide))).trans ((s_57 b (rb_ne (j := 8) hb (by decide))).trans ((s_53 b (rb_ne (j := 0) hb (by decide))).trans ((s_50 b (rb_ne (j := 7) hb (by decide))).trans ((s_45 b (rb_ne (j := 0) hb (by decide))).trans ((s_34 b (rb_ne (j := 0) hb (by decide))).trans ((s_31 b (rb_lt (j := 4) hb (by decide))).trans ((s_27 b (rb_ne (j := 4) hb (by decide))).trans ((s_23 b (rb_ne (j := 0) hb (by decide))).trans ((s_12 b (rb_ne (j := 0) hb (by decide))).trans rfl)))))))))))))))))))))))))))))
  have hS := F_31.keep2 (h' := h_3z) ((l_3z).trans l_31.symm) (fun b hb => by unfold dBlk at hb; exact ((s_3z b (rb_ne (j := 194) hb (by decide))).trans ((s_3s b (rb_ne (j := 7) hb (by decide))).trans ((s_3i b (rb_lt (j := 194) hb (by decide))).trans ((s_3n b (rb_ne (j := 194) hb (by decide))).trans ((s_2z b (rb_ne (j := 192) hb (by decide))).trans ((s_2s b (rb_ne (j := 7) hb (by decide))).trans ((s_2i b (rb_lt (j := 192) hb (by decide))).trans ((s_2n b (rb_ne (j := 192) hb (by decide))).trans ((s_1z b (rb_ne (j := 190) hb (by decide))).trans ((s_1s b (rb_ne (j := 7) hb (by decide))).trans ((s_1i b (rb_lt (j := 190) hb (by decide))).trans ((s_1n b (rb_ne (j := 190) hb (by decide))).trans ((s_0z b (rb_ne (j := 188) hb (by decide))).trans ((s_0s b (rb_ne (j := 7) hb (by decide))).trans ((s_0i b (rb_lt (j := 188) hb (by decide))).trans ((s_0n b (rb_ne (j := 188) hb (by decide))).trans ((s_75 b (rb_ne (j := 0) hb (by decide))).trans ((s_64 b (rb_ne (j := 0) hb (by decide))).trans ((s_61 b (rb_lt (j := 8) hb (by decide))).trans ((s_57 b (rb_ne (j := 8) hb (by decide))).trans ((s_53 b (rb_ne (j := 0) hb (by decide))).trans ((s_50 b (rb_ne (j := 7) hb (by decide))).trans ((s_45 b (rb_ne (j := 0) hb (by decide))).trans ((s_34 b (rb_ne (j := 0) hb (by decide))).trans rfl)))))))))))))))))))))))))
  have hR := F_61.keep2 (h' := h_3z) ((l_3z).trans l_61.symm) (fun b hb => by unfold rBlk at hb; exact ((s_3z b (rb_ne (j := 194) hb (by decide))).trans ((s_3s b (rb_ne (j := 7) hb (by decide))).trans ((s_3i b (rb_lt (j := 194) hb (by decide))).trans ((s_3n b (rb_ne (j := 194) hb (by decide))).trans ((s_2z b (rb_ne (j := 192) hb (by decide))).trans ((s_2s b (rb_ne (j := 7) hb (by decide))).trans ((s_2i b (rb_lt (j := 192) hb (by decide))).trans ((s_2n b (rb_ne (j := 192) hb (by decide))).trans ((s_1z b (rb_ne (j := 190) hb (by decide))).trans ((s_1s b (rb_ne (j := 7) hb (by decide))).trans ((s_1i b (rb_lt (j := 190) hb (by decide))).trans ((s_1n b (rb_ne (j := 190) hb (by decide))).trans ((s_0z b (rb_ne (j := 188) hb (by decide))).trans ((s_0s b (rb_ne (j := 7) hb (by decide))).trans ((s_0i b (rb_lt (j := 188) hb (by decide))).trans ((s_0n b (rb_ne (j := 188) hb (by decide))).trans ((s_75 b (rb_ne (j := 0) hb (by decide))).trans ((s_64 b (rb_ne (j := 0) hb (by decide))).trans rfl)))))))))))))))))))
  exact ⟨rfl, ⟨(Nat.le_trans (Nat.le_of_eq l_3z) hlo), ((s_3z a (ad_0ne (j := 194) (by decide))).trans ((s_3s a (ad_0ne (j := 7) (by decide))).trans ((s_3i a (ad_0lt (j := 194) (by decide))).trans ((s_3n a (ad_0ne (j := 194) (by decide))).trans ((s_2z a (ad_0ne (j := 192) (by decide))).trans ((s_2s a (ad_0ne (j := 7) (by decide))).trans ((s_2i a (ad_0lt (j := 192) (by decide))).trans ((s_2n a (ad_0ne (j := 192) (by decide))).trans ((s_1z a (ad_0ne (j := 190) (by decide))).trans ((s_1s a (ad_0ne (j := 7) (by decide))).trans ((s_1i a (ad_0lt (j := 190) (by decide))).trans ((s_1n a (ad_0ne (j := 190) (by decide))).trans ((s_0z a (ad_0ne (j := 188) (by decide))).trans ((s_0s a (ad_0ne (j := 7) (by decide))).trans ((s_0i a (ad_0lt (j := 188) (by decide))).trans ((s_0n a (ad_0ne (j := 188) (by decide))).trans o_75)))))))))))))))), hD, hS, ((s_3z (a + 7) (ad_ne (i := 7) (j := 194) (by decide))).trans a_3s), hR, four ⟨Nat.le_trans (Nat.le_trans (Nat.le_of_eq l_3z) hlo) kR_le, ((s_3z (a + 188) (ad_ne (i := 188) (j := 194) (by decide))).trans ((s_3s (a + 188) (ad_ne (i := 188) (j := 7) (by decide))).trans ((s_3i (a + 188) (ad_lt (i := 188) (j := 194) (by decide))).trans ((s_3n (a + 188) (ad_ne (i := 188) (j := 194) (by decide))).trans ((s_2z (a + 188) (ad_ne (i := 188) (j := 192) (by decide))).trans ((s_2s (a + 188) (ad_ne (i := 188) (j := 7) (by decide))).trans ((s_2i (a + 188) (ad_lt (i := 188) (j := 192) (by decide))).trans ((s_2n (a + 188) (ad_ne (i := 188) (j := 192) (by decide))).trans ((s_1z (a + 188) (ad_ne (i := 188) (j := 190) (by decide))).trans ((s_1s (a + 188) (ad_ne (i := 188) (j := 7) (by decide))).trans ((s_1i (a + 188) (ad_lt (i := 188) (j := 190) (by decide))).trans ((s_1n (a + 188) (ad_ne (i := 188) (j := 190) (by decide))).trans o_0z)))))))))))), ((s_3z (a + 189) (ad_ne (i := 189) (j := 194) (by decide))).trans ((s_3s (a + 189) (ad_ne (i := 189) (j := 7) (by decide))).trans ((s_3i (a + 189) (ad_lt (i := 189) (j := 194) (by decide))).trans ((s_3n (a + 189) (ad_ne (i := 189) (j := 194) (by decide))).trans ((s_2z (a + 189) (ad_ne (i := 189) (j := 192) (by decide))).trans ((s_2s (a + 189) (ad_ne (i := 189) (j := 7) (by decide))).trans ((s_2i (a + 189) (ad_lt (i := 189) (j := 192) (by decide))).trans ((s_2n (a + 189) (ad_ne (i := 189) (j := 192) (by decide))).trans ((s_1z (a + 189) (ad_ne (i := 189) (j := 190) (by decide))).trans ((s_1s (a + 189) (ad_ne (i := 189) (j := 7) (by decide))).trans ((s_1i (a + 189) (ad_lt (i := 189) (j := 190) (by decide))).trans ((s_1n (a + 189) (ad_ne (i := 189) (j := 190) (by decide))).trans ((s_0z (a + 189) (ad_ne (i := 189) (j := 188) (by decide))).trans ((s_0s (a + 189) (ad_ne (i := 189) (j := 7) (by decide))).trans F_0i.gc))))))))))))))⟩ ⟨Nat.le_trans (Nat.le_trans (Nat.le_of_eq l_3z) hlo) kR_le, ((s_3z (a + 190) (ad_ne (i := 190) (j := 194) (by decide))).trans ((s_3s (a + 190) (ad_ne (i := 190) (j := 7) (by decide))).trans ((s_3i (a + 190) (ad_lt (i := 190) (j := 194) (by decide))).trans ((s_3n (a + 190) (ad_ne (i := 190) (j := 194) (by decide))).trans ((s_2z (a + 190) (ad_ne (i := 190) (j := 192) (by decide))).trans ((s_2s (a + 190) (ad_ne (i := 190) (j := 7) (by decide))).trans ((s_2i (a + 190) (ad_lt (i := 190) (j := 192) (by decide))).trans ((s_2n (a + 190) (ad_ne (i := 190) (j := 192) (by decide))).trans o_1z)))))))), ((s_3z (a + 191) (ad_ne (i := 191) (j := 194) (by decide))).trans ((s_3s (a + 191) (ad_ne (i := 191) (j := 7) (by decide))).trans ((s_3i (a + 191) (ad_lt (i := 191) (j := 194) (by decide))).trans ((s_3n (a + 191) (ad_ne (i := 191) (j := 194) (by decide))).trans ((s_2z (a + 191) (ad_ne (i := 191) (j := 192) (by decide))).trans ((s_2s (a + 191) (ad_ne (i := 191) (j := 7) (by decide))).trans ((s_2i (a + 191) (ad_lt (i := 191) (j := 192) (by decide))).trans ((s_2n (a + 191) (ad_ne (i := 191) (j := 192) (by decide))).trans ((s_1z (a + 191) (ad_ne (i := 191) (j := 190) (by decide))).trans ((s_1s (a + 191) (ad_ne (i := 191) (j := 7) (by decide))).trans F_1i.gc))))))))))⟩ ⟨Nat.le_trans (Nat.le_trans (Nat.le_of_eq l_3z) hlo) kR_le, ((s_3z (a + 192) (ad_ne (i := 192) (j := 194) (by decide))).trans ((s_3s (a + 192) (ad_ne (i := 192) (j := 7) (by decide))).trans ((s_3i (a + 192) (ad_lt (i := 192) (j := 194) (by decide))).trans ((s_3n (a + 192) (ad_ne (i := 192) (j := 194) (by decide))).trans o_2z)))), ((s_3z (a + 193) (ad_ne (i := 193) (j := 194) (by decide))).trans ((s_3s (a + 193) (ad_ne (i := 193) (j := 7) (by decide))).trans ((s_3i (a + 193) (ad_lt (i := 193) (j := 194) (by decide))).trans ((s_3n (a + 193) (ad_ne (i := 193) (j := 194) (by decide))).trans ((s_2z (a + 193) (ad_ne (i := 193) (j := 192) (by decide))).trans ((s_2s (a + 193) (ad_ne (i := 193) (j := 7) (by decide))).trans F_2i.gc))))))⟩ ⟨Nat.le_trans (Nat.le_trans (Nat.le_of_eq l_3z) hlo) kR_le, o_3z, ((s_3z (a + 195) (ad_ne (i := 195) (j := 194) (by decide))).trans ((s_3s (a + 195) (ad_ne (i := 195) (j := 7) (by decide))).trans F_3i.gc))⟩⟩, fun b hb => ((s_3z b (b_ne (j := 194) hb)).trans ((s_3s b (b_ne (j := 7) hb)).trans ((s_3i b (b_lt (j := 194) hb)).trans ((s_3n b (b_ne (j := 194) hb)).trans ((s_2z b (b_ne (j := 192) hb)).trans ((s_2s b (b_ne (j := 7) hb)).trans ((s_2i b (b_lt (j := 192) hb)).trans ((s_2n b (b_ne (j := 192) hb)).trans ((s_1z b (b_ne (j := 190) hb)).trans ((s_1s b (b_ne (j := 7) hb)).trans ((s_1i b (b_lt (j := 190) hb)).trans ((s_1n b (b_ne (j := 190) hb)).trans ((s_0z b (b_ne (j := 188) hb)).trans ((s_0s b (b_ne (j := 7) hb)).trans ((s_0i b (b_lt (j := 188) hb)).trans ((s_0n b (b_ne (j := 188) hb)).trans ((s_75 b (Nat.ne_of_lt hb)).trans ((s_64 b (Nat.ne_of_lt hb)).trans ((s_61 b (b_lt (j := 8) hb)).trans ((s_57 b (b_ne (j := 8) hb)).trans ((s_53 b (Nat.ne_of_lt hb)).trans ((s_50 b (b_ne (j := 7) hb)).trans ((s_45 b (Nat.ne_of_lt hb)).trans ((s_34 b (Nat.ne_of_lt hb)).trans ((s_31 b (b_lt (j := 4) hb)).trans ((s_27 b (b_ne (j := 4) hb)).trans ((s_23 b (Nat.ne_of_lt hb)).trans ((s_12 b (Nat.ne_of_lt hb)).trans ((s_9 b (b_lt (j := 1) hb)).trans ((s_5 b (b_ne (j := 1) hb)).trans rfl)))))))))))))))))))))))))))))), l_3z, n_3z, k_3z⟩

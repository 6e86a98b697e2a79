/-! ===== the class's constructors ===== -/
section RG
variable {G : mG} {l : Launch} {d : Nat} {M : mM} {pc : Nat} {ls : List (Option Value)} {st : List Value} {h : mH} {Q : Option Value → mH → Prop}
theorem rg_newC {index ci N z : Nat} {fs : List Value} (hdg : decode M.2.1 pc = .ok (.new index, 3)) (hc : mNewC M.1.cls index ci N fs) (hz : h.2.1 = z)
    (K : ∀ h1, hGet h1 z = some (.inl (ci, fs)) → onlyAt z h h1 → h1.1 = h.1 → h1.2.1 = z + 1 → h1.2.2.1 = h.2.2.1 + N → RUN G l d M (pc + 3) ls (.ref z :: st) h1 Q) : RUN G l d M pc ls st h Q := by
  subst hz
  exact r_newC hdg hc (K _ hGet_new_self (fun b hb => hGet_new_ne hb rfl) rfl rfl rfl)
theorem rg_newaR {n : Int} {index t z : Nat} {C : String} (hdg : decode M.2.1 pc = .ok (.anewarray index, 3)) (hG : G.2.map Prod.snd = mTy) (hty : mTy[t]? = some (.object C)) (hw1 : Cond.classLink M.1.cls index C ∈ lw_use) (hw2 : Cond.arrayOver (.object C) ∈ lw_use) (hz : h.2.1 = z) (hn : 0 ≤ n) (hm : n < 100000)
    (K : ∀ h1, hGet h1 z = some (.inr (.inr (t, n.toNat, fun _ => none))) → onlyAt z h h1 → h1.1 = h.1 → h1.2.1 = z + 1 → h1.2.2.1 = h.2.2.1 + n.toNat → RUN G l d M (pc + 3) ls (.ref z :: st) h1 Q) : RUN G l d M pc ls (.int (J n) :: st) h Q := by
  subst hz
  exact r_newaR hdg hG hty hw1 hw2 (by rw [J_0, J_lt ⟨by omega, by omega⟩ ⟨by decide, by decide⟩]; omega) (J_cl hn ⟨by omega, by omega⟩) (by omega) (K _ hGet_new_self (fun b hb => hGet_new_ne hb rfl) rfl rfl rfl)
theorem rg_aast {a t n ci v : Nat} {f : Nat → Option Nat} {i : Int} {r : vw_C} {vs : List Value} (hdg : decode M.2.1 pc = .ok (.aastore, 1)) (ho : hGet h a = some (.inr (.inr (t, n, f)))) (hov : hGet h v = some (.inl (ci, vs))) (hc : vwCl[ci]? = some r) (hG : G.2.map Prod.snd = mTy) (hty : mTy[t]? = some (.object r.1)) (hlo : h.1 ≤ a) (hr : InR i) (h0 : 0 ≤ i) (h1 : i < n)
    (K : ∀ h1, hGet h1 a = some (.inr (.inr (t, n, va_up f i.toNat (some v)))) → onlyAt a h h1 → h1.1 = h.1 → h1.2.1 = h.2.1 → h1.2.2.1 = h.2.2.1 → RUN G l d M (pc + 1) ls st h1 Q) : RUN G l d M pc ls (.ref v :: .int (J i) :: .ref a :: st) h Q :=
  r_aast hdg ho hov hc hG hty hlo (J_in hr h0 h1) (by rw [J_cl h0 hr]; exact rg_gen K)
end RG
def Grow (a : Nat) (h h' : mH) : Prop := ∀ b, b < a → hGet h' b = hGet h b
theorem fill_s (a i : Nat) : va_up (fun q => if q < i then some (a + q) else none) i (some (a + i)) = fun q => if q < i + 1 then some (a + q) else none := by
  funext q
  show (if q = i then some (a + i) else if q < i then some (a + q) else none) = if q < i + 1 then some (a + q) else none
  repeat' split
  all_goals first | rfl | (exfalso; omega) | (subst_vars; rfl)
theorem fill_0 (a : Nat) : (fun _ => none : Nat → Option Nat) = fun q => if q < 0 then some (a + q) else none := by
  funext q
  simp
theorem ad_ne {a i j : Nat} (h : i ≠ j) : a + i ≠ a + j := by omega
theorem ad_lt {a i j : Nat} (h : i < j) : a + i < a + j := by omega
theorem b_ne {a b j : Nat} (h : b < a) : b ≠ a + j := by omega
theorem b_lt {a b j : Nat} (h : b < a) : b < a + j := by omega
theorem ad_ne0 {a i : Nat} (h : 0 < i) : a + i ≠ a := by omega
theorem ad_0ne {a j : Nat} (h : 0 < j) : a ≠ a + j := by omega
theorem ad_0lt {a j : Nat} (h : 0 < j) : a < a + j := by omega
theorem sl_add {A B C x y : Nat} (h1 : A = B + x) (h2 : B = C + y) : A = C + (y + x) := by omega
theorem sl_0 {A : Nat} : A = A + 0 := rfl
set_option maxHeartbeats 4000000 in
set_option maxRecDepth 100000 in
theorem ki_init {G : mG} {l : Launch} (d : Nat) (hG : G.2.map Prod.snd = mTy) {h : mH} {a : Nat} {N : Nat} (hN : N ≤ 1000) (hx : hGet h a = some (.inl (1, [.null, .int 0]))) (hlo : h.1 ≤ a) (hn : h.2.1 = a + 1) : RUNM G l (d + 1) mX1_init [.ref a, .int (J (N : Int))] h (fun v h' => v = none ∧ isI h' a N 0 (fun _ => 0) ∧ Grow a h h' ∧ h'.1 = h.1 ∧ h'.2.1 = a + 2 ∧ h'.2.2.1 = h.2.2.1 + N) := by
  refine RUNM.of (by decide +kernel) (Nat.le_of_ble_eq_true rfl) ?_
  refine r_aload_n (pc := 0) dX1_init_0 rfl rfl ?_
  refine r_objInit (pc := 1) dX1_init_1 kX1_1 (Nat.le_of_ble_eq_true rfl) ?_
  refine r_aload_n (pc := 4) dX1_init_4 rfl rfl ?_
  refine r_iload_n (pc := 5) dX1_init_5 rfl ?_
  refine rj_if_ge (pc := 6) (tgt := 13) dX1_init_6 (by decide) ⟨by omega, by omega⟩ (fun c_6 => ?_) (fun c_6 => absurd (Int.natCast_nonneg N) c_6)
  refine r_iload_n (pc := 13) dX1_init_13 rfl ?_
  refine rg_newaI (pc := 14) (z := a + 1) dX1_init_14 hG hn (by omega) (by omega) (fun h_14 o_14 s_14 l_14 n_14 k_14 => ?_)
  have k_14 : h_14.2.2.1 = h.2.2.1 + (0 + N) := sl_add k_14 sl_0
  refine r_putF (pc := 16) dX1_init_16 fX1_7 ⟨_, rfl, rfl⟩ rfl ((s_14 a (ad_0ne (j := 1) (by decide))).trans hx) (Nat.le_trans (Nat.le_of_eq l_14) hlo) rfl rfl (Nat.le_of_ble_eq_true rfl) ?_
  refine rg_gen (fun h_16 o_16 s_16 l_16 n_16 k_16 => ?_)
  dsimp only [List.set] at o_16
  have n_16 := n_16.trans n_14
  have l_16 := l_16.trans l_14
  have k_16 : h_16.2.2.1 = h.2.2.1 + (0 + N) := k_16.trans k_14
  refine r_return (pc := 19) dX1_init_19 rfl ?_
  refine ⟨rfl, ⟨(Nat.le_trans (Nat.le_of_eq l_16) hlo), ?_, ?_⟩, fun b hb => ((s_16 b (Nat.ne_of_lt hb)).trans ((s_14 b (b_ne (j := 1) hb)).trans rfl)), l_16, n_16, (by have y := k_16; omega)⟩
  · have y := o_16; rw [J_0] at y; exact y
  · have y := ((s_16 (a + 1) (ad_ne0 (i := 1) (by decide))).trans o_14); exact y
set_option maxHeartbeats 4000000 in
set_option maxRecDepth 100000 in
theorem k_X8 {G : mG} {l : Launch} (d : Nat) {h : mH} {a : Nat} : RUNM G l (d + 1) mX8_init [.ref a] h (fun v h' => v = none ∧ h' = h) := by
  refine RUNM.of (by decide +kernel) (Nat.le_of_ble_eq_true rfl) ?_
  refine r_aload_n (pc := 0) dX8_init_0 rfl (by first | rfl | exact isRefV_rf _) ?_
  refine r_objInit (pc := 1) dX8_init_1 kX8_1 (Nat.le_of_ble_eq_true rfl) ?_
  refine r_return (pc := 4) dX8_init_4 rfl ?_
  exact ⟨rfl, rfl⟩
set_option maxHeartbeats 4000000 in
set_option maxRecDepth 100000 in
theorem k_X4 {G : mG} {l : Launch} (d : Nat) {h : mH} {a : Nat} : RUNM G l (d + 1) mX4_init [.ref a] h (fun v h' => v = none ∧ h' = h) := by
  refine RUNM.of (by decide +kernel) (Nat.le_of_ble_eq_true rfl) ?_
  refine r_aload_n (pc := 0) dX4_init_0 rfl (by first | rfl | exact isRefV_rf _) ?_
  refine r_objInit (pc := 1) dX4_init_1 kX4_1 (Nat.le_of_ble_eq_true rfl) ?_
  refine r_return (pc := 4) dX4_init_4 rfl ?_
  exact ⟨rfl, rfl⟩
set_option maxHeartbeats 4000000 in
set_option maxRecDepth 100000 in
theorem k_X7 {G : mG} {l : Launch} (d : Nat) {h : mH} {a : Nat} : RUNM G l (d + 1) mX7_init [.ref a] h (fun v h' => v = none ∧ h' = h) := by
  refine RUNM.of (by decide +kernel) (Nat.le_of_ble_eq_true rfl) ?_
  refine r_aload_n (pc := 0) dX7_init_0 rfl (by first | rfl | exact isRefV_rf _) ?_
  refine r_objInit (pc := 1) dX7_init_1 kX7_3 (Nat.le_of_ble_eq_true rfl) ?_
  refine r_return (pc := 4) dX7_init_4 rfl ?_
  exact ⟨rfl, rfl⟩
def zFa (h : mH) (a : Nat) : Prop := hGet h a = some (.inl (0, [.ref (a + 1), .ref (a + 3), .ref (a + 5), .int 0])) ∧ isI h (a + 1) 90 0 (fun _ => 0) ∧ isI h (a + 3) 90 0 (fun _ => 0) ∧ isI h (a + 5) 90 0 (fun _ => 0)
set_option maxHeartbeats 4000000 in
set_option maxRecDepth 100000 in
theorem k_X0 {G : mG} {l : Launch} (d : Nat) (hG : G.2.map Prod.snd = mTy) {h : mH} {a : Nat} (hx : hGet h a = some (.inl (0, [.null, .null, .null, .int 0]))) (hlo : h.1 ≤ a) (hn : h.2.1 = a + 1) : RUNM G l (d + 2) mX0_init [.ref a] h (fun v h' => v = none ∧ zFa h' a ∧ Grow a h h' ∧ h'.1 = h.1 ∧ h'.2.1 = a + 7 ∧ h'.2.2.1 = h.2.2.1 + 276) := by
  refine RUNM.of (by decide +kernel) (Nat.le_of_ble_eq_true rfl) ?_
  refine r_aload_n (pc := 0) dX0_init_0 rfl rfl ?_
  refine r_objInit (pc := 1) dX0_init_1 kX0_3 (Nat.le_of_ble_eq_true rfl) ?_
  refine r_aload_n (pc := 4) dX0_init_4 rfl rfl ?_
  refine rg_newC (pc := 5) (z := a + 1) dX0_init_5 cX0_9 hn (fun h_5 o_5 s_5 l_5 n_5 k_5 => ?_)
  have k_5 : h_5.2.2.1 = h.2.2.1 + (2) := sl_add k_5 sl_0
  refine r_dup (pc := 8) dX0_init_8 rfl ?_
  refine rj_bipush (pc := 9) dX0_init_9 (by decide +kernel) ?_
  refine r_callI1 (pc := 11) dX0_init_11 qX1_init rfl kX0_11 rfl iX1_init (Nat.le_of_ble_eq_true rfl) (ki_init _ hG (N := 90) (by decide) o_5 (Nat.le_trans (Nat.le_trans (Nat.le_of_eq l_5) hlo) (Nat.le_add_right _ _)) n_5) (fun v_11 h_11 q_11 => ?_)
  obtain ⟨rfl, F_11, s_11, l_11, n_11, k_11⟩ := q_11
  have l_11 := l_11.trans l_5
  have k_11 : h_11.2.2.1 = h.2.2.1 + (92) := sl_add k_11 k_5
  refine r_putF (pc := 14) dX0_init_14 fX0_14 ⟨_, rfl, rfl⟩ rfl ((s_11 a (ad_0lt (j := 1) (by decide))).trans ((s_5 a (ad_0ne (j := 1) (by decide))).trans hx)) (Nat.le_trans (Nat.le_of_eq l_11) hlo) rfl rfl (Nat.le_of_ble_eq_true rfl) ?_
  refine rg_gen (fun h_14 o_14 s_14 l_14 n_14 k_14 => ?_)
  dsimp only [List.set] at o_14
  have n_14 := n_14.trans n_11
  have l_14 := l_14.trans l_11
  have k_14 : h_14.2.2.1 = h.2.2.1 + (92) := k_14.trans k_11
  refine r_aload_n (pc := 17) dX0_init_17 rfl rfl ?_
  refine rg_newC (pc := 18) (z := a + 3) dX0_init_18 cX0_9 n_14 (fun h_18 o_18 s_18 l_18 n_18 k_18 => ?_)
  have l_18 := l_18.trans l_14
  have k_18 : h_18.2.2.1 = h.2.2.1 + (94) := sl_add k_18 k_14
  refine r_dup (pc := 21) dX0_init_21 rfl ?_
  refine rj_bipush (pc := 22) dX0_init_22 (by decide +kernel) ?_
  refine r_callI1 (pc := 24) dX0_init_24 qX1_init rfl kX0_11 rfl iX1_init (Nat.le_of_ble_eq_true rfl) (ki_init _ hG (N := 90) (by decide) o_18 (Nat.le_trans (Nat.le_trans (Nat.le_of_eq l_18) hlo) (Nat.le_add_right _ _)) n_18) (fun v_24 h_24 q_24 => ?_)
  obtain ⟨rfl, F_24, s_24, l_24, n_24, k_24⟩ := q_24
  have l_24 := l_24.trans l_18
  have k_24 : h_24.2.2.1 = h.2.2.1 + (184) := sl_add k_24 k_18
  refine r_putF (pc := 27) dX0_init_27 fX0_20 ⟨_, rfl, rfl⟩ rfl ((s_24 a (ad_0lt (j := 3) (by decide))).trans ((s_18 a (ad_0ne (j := 3) (by decide))).trans o_14)) (Nat.le_trans (Nat.le_of_eq l_24) hlo) rfl rfl (Nat.le_of_ble_eq_true rfl) ?_
  refine rg_gen (fun h_27 o_27 s_27 l_27 n_27 k_27 => ?_)
  dsimp only [List.set] at o_27
  have n_27 := n_27.trans n_24
  have l_27 := l_27.trans l_24
  have k_27 : h_27.2.2.1 = h.2.2.1 + (184) := k_27.trans k_24
  refine r_aload_n (pc := 30) dX0_init_30 rfl rfl ?_
  refine rg_newC (pc := 31) (z := a + 5) dX0_init_31 cX0_9 n_27 (fun h_31 o_31 s_31 l_31 n_31 k_31 => ?_)
  have l_31 := l_31.trans l_27
  have k_31 : h_31.2.2.1 = h.2.2.1 + (186) := sl_add k_31 k_27
  refine r_dup (pc := 34) dX0_init_34 rfl ?_
  refine rj_bipush (pc := 35) dX0_init_35 (by decide +kernel) ?_
  refine r_callI1 (pc := 37) dX0_init_37 qX1_init rfl kX0_11 rfl iX1_init (Nat.le_of_ble_eq_true rfl) (ki_init _ hG (N := 90) (by decide) o_31 (Nat.le_trans (Nat.le_trans (Nat.le_of_eq l_31) hlo) (Nat.le_add_right _ _)) n_31) (fun v_37 h_37 q_37 => ?_)
  obtain ⟨rfl, F_37, s_37, l_37, n_37, k_37⟩ := q_37
  have l_37 := l_37.trans l_31
  have k_37 : h_37.2.2.1 = h.2.2.1 + (276) := sl_add k_37 k_31
  refine r_putF (pc := 40) dX0_init_40 fX0_23 ⟨_, rfl, rfl⟩ rfl ((s_37 a (ad_0lt (j := 5) (by decide))).trans ((s_31 a (ad_0ne (j := 5) (by decide))).trans o_27)) (Nat.le_trans (Nat.le_of_eq l_37) hlo) rfl rfl (Nat.le_of_ble_eq_true rfl) ?_
  refine rg_gen (fun h_40 o_40 s_40 l_40 n_40 k_40 => ?_)
  dsimp only [List.set] at o_40
  have n_40 := n_40.trans n_37
  have l_40 := l_40.trans l_37
  have k_40 : h_40.2.2.1 = h.2.2.1 + (276) := k_40.trans k_37
  refine r_return (pc := 43) dX0_init_43 rfl ?_
  refine ⟨rfl, ⟨o_40, ⟨(Nat.le_trans (Nat.le_trans (Nat.le_of_eq l_40) hlo) (Nat.le_add_right _ _)), ((s_40 (a + 1) (ad_ne0 (i := 1) (by decide))).trans ((s_37 (a + 1) (ad_lt (i := 1) (j := 5) (by decide))).trans ((s_31 (a + 1) (ad_ne (i := 1) (j := 5) (by decide))).trans ((s_27 (a + 1) (ad_ne0 (i := 1) (by decide))).trans ((s_24 (a + 1) (ad_lt (i := 1) (j := 3) (by decide))).trans ((s_18 (a + 1) (ad_ne (i := 1) (j := 3) (by decide))).trans ((s_14 (a + 1) (ad_ne0 (i := 1) (by decide))).trans F_11.gx))))))), ((s_40 (a + 2) (ad_ne0 (i := 2) (by decide))).trans ((s_37 (a + 2) (ad_lt (i := 2) (j := 5) (by decide))).trans ((s_31 (a + 2) (ad_ne (i := 2) (j := 5) (by decide))).trans ((s_27 (a + 2) (ad_ne0 (i := 2) (by decide))).trans ((s_24 (a + 2) (ad_lt (i := 2) (j := 3) (by decide))).trans ((s_18 (a + 2) (ad_ne (i := 2) (j := 3) (by decide))).trans ((s_14 (a + 2) (ad_ne0 (i := 2) (by decide))).trans F_11.gc)))))))⟩, ⟨(Nat.le_trans (Nat.le_trans (Nat.le_of_eq l_40) hlo) (Nat.le_add_right _ _)), ((s_40 (a + 3) (ad_ne0 (i := 3) (by decide))).trans ((s_37 (a + 3) (ad_lt (i := 3) (j := 5) (by decide))).trans ((s_31 (a + 3) (ad_ne (i := 3) (j := 5) (by decide))).trans ((s_27 (a + 3) (ad_ne0 (i := 3) (by decide))).trans F_24.gx)))), ((s_40 (a + 4) (ad_ne0 (i := 4) (by decide))).trans ((s_37 (a + 4) (ad_lt (i := 4) (j := 5) (by decide))).trans ((s_31 (a + 4) (ad_ne (i := 4) (j := 5) (by decide))).trans ((s_27 (a + 4) (ad_ne0 (i := 4) (by decide))).trans F_24.gc))))⟩, ⟨(Nat.le_trans (Nat.le_trans (Nat.le_of_eq l_40) hlo) (Nat.le_add_right _ _)), ((s_40 (a + 5) (ad_ne0 (i := 5) (by decide))).trans F_37.gx), ((s_40 (a + 6) (ad_ne0 (i := 6) (by decide))).trans F_37.gc)⟩⟩, fun b hb => ((s_40 b (Nat.ne_of_lt hb)).trans ((s_37 b (b_lt (j := 5) hb)).trans ((s_31 b (b_ne (j := 5) hb)).trans ((s_27 b (Nat.ne_of_lt hb)).trans ((s_24 b (b_lt (j := 3) hb)).trans ((s_18 b (b_ne (j := 3) hb)).trans ((s_14 b (Nat.ne_of_lt hb)).trans ((s_11 b (b_lt (j := 1) hb)).trans ((s_5 b (b_ne (j := 1) hb)).trans rfl))))))))), l_40, n_40, k_40⟩
set_option maxHeartbeats 4000000 in
set_option maxRecDepth 100000 in
theorem k_X2 {G : mG} {l : Launch} (d : Nat) (hG : G.2.map Prod.snd = mTy) {h : mH} {a : Nat} (hx : hGet h a = some (.inl (2, [.null, .int 0, .int 0, .int 0]))) (hlo : h.1 ≤ a) (hn : h.2.1 = a + 1) : RUNM G l (d + 2) mX2_init [.ref a] h (fun v h' => v = none ∧ isRd h' a 0 0 0 0 (fun _ => 0) ∧ Grow a h h' ∧ h'.1 = h.1 ∧ h'.2.1 = a + 3 ∧ h'.2.2.1 = h.2.2.1 + 122) := by
  refine RUNM.of (by decide +kernel) (Nat.le_of_ble_eq_true rfl) ?_
  refine r_aload_n (pc := 0) dX2_init_0 rfl rfl ?_
  refine r_objInit (pc := 1) dX2_init_1 kX2_3 (Nat.le_of_ble_eq_true rfl) ?_
  refine r_aload_n (pc := 4) dX2_init_4 rfl rfl ?_
  refine rg_newC (pc := 5) (z := a + 1) dX2_init_5 cX2_9 hn (fun h_5 o_5 s_5 l_5 n_5 k_5 => ?_)
  have k_5 : h_5.2.2.1 = h.2.2.1 + (2) := sl_add k_5 sl_0
  refine r_dup (pc := 8) dX2_init_8 rfl ?_
  refine rj_bipush (pc := 9) dX2_init_9 (by decide +kernel) ?_
  refine r_callI1 (pc := 11) dX2_init_11 qX1_init rfl kX2_11 rfl iX1_init (Nat.le_of_ble_eq_true rfl) (ki_init _ hG (N := 120) (by decide) o_5 (Nat.le_trans (Nat.le_trans (Nat.le_of_eq l_5) hlo) (Nat.le_add_right _ _)) n_5) (fun v_11 h_11 q_11 => ?_)
  obtain ⟨rfl, F_11, s_11, l_11, n_11, k_11⟩ := q_11
  have l_11 := l_11.trans l_5
  have k_11 : h_11.2.2.1 = h.2.2.1 + (122) := sl_add k_11 k_5
  refine r_putF (pc := 14) dX2_init_14 fX2_14 ⟨_, rfl, rfl⟩ rfl ((s_11 a (ad_0lt (j := 1) (by decide))).trans ((s_5 a (ad_0ne (j := 1) (by decide))).trans hx)) (Nat.le_trans (Nat.le_of_eq l_11) hlo) rfl rfl (Nat.le_of_ble_eq_true rfl) ?_
  refine rg_gen (fun h_14 o_14 s_14 l_14 n_14 k_14 => ?_)
  dsimp only [List.set] at o_14
  have n_14 := n_14.trans n_11
  have l_14 := l_14.trans l_11
  have k_14 : h_14.2.2.1 = h.2.2.1 + (122) := k_14.trans k_11
  refine r_return (pc := 17) dX2_init_17 rfl ?_
  have y := o_14
  try rw [J_0] at y
  exact ⟨rfl, ⟨(Nat.le_trans (Nat.le_of_eq l_14) hlo), y, ⟨(Nat.le_trans (Nat.le_trans (Nat.le_of_eq l_14) hlo) (Nat.le_add_right _ _)), ((s_14 (a + 1) (ad_ne0 (i := 1) (by decide))).trans F_11.gx), ((s_14 (a + 2) (ad_ne0 (i := 2) (by decide))).trans F_11.gc)⟩⟩, fun b hb => ((s_14 b (Nat.ne_of_lt hb)).trans ((s_11 b (b_lt (j := 1) hb)).trans ((s_5 b (b_ne (j := 1) hb)).trans rfl))), l_14, n_14, k_14⟩
set_option maxHeartbeats 4000000 in
set_option maxRecDepth 100000 in
theorem k_X5 {G : mG} {l : Launch} (d : Nat) (hG : G.2.map Prod.snd = mTy) {h : mH} {a : Nat} (hx : hGet h a = some (.inl (5, [.null]))) (hlo : h.1 ≤ a) (hn : h.2.1 = a + 1) : RUNM G l (d + 2) mX5_init [.ref a] h (fun v h' => v = none ∧ isSp h' a 0 (fun _ => 0) ∧ Grow a h h' ∧ h'.1 = h.1 ∧ h'.2.1 = a + 3 ∧ h'.2.2.1 = h.2.2.1 + 122) := by
  refine RUNM.of (by decide +kernel) (Nat.le_of_ble_eq_true rfl) ?_
  refine r_aload_n (pc := 0) dX5_init_0 rfl rfl ?_
  refine r_objInit (pc := 1) dX5_init_1 kX5_3 (Nat.le_of_ble_eq_true rfl) ?_
  refine r_aload_n (pc := 4) dX5_init_4 rfl rfl ?_
  refine rg_newC (pc := 5) (z := a + 1) dX5_init_5 cX5_9 hn (fun h_5 o_5 s_5 l_5 n_5 k_5 => ?_)
  have k_5 : h_5.2.2.1 = h.2.2.1 + (2) := sl_add k_5 sl_0
  refine r_dup (pc := 8) dX5_init_8 rfl ?_
  refine rj_bipush (pc := 9) dX5_init_9 (by decide +kernel) ?_
  refine r_callI1 (pc := 11) dX5_init_11 qX1_init rfl kX5_11 rfl iX1_init (Nat.le_of_ble_eq_true rfl) (ki_init _ hG (N := 120) (by decide) o_5 (Nat.le_trans (Nat.le_trans (Nat.le_of_eq l_5) hlo) (Nat.le_add_right _ _)) n_5) (fun v_11 h_11 q_11 => ?_)
  obtain ⟨rfl, F_11, s_11, l_11, n_11, k_11⟩ := q_11
  have l_11 := l_11.trans l_5
  have k_11 : h_11.2.2.1 = h.2.2.1 + (122) := sl_add k_11 k_5
  refine r_putF (pc := 14) dX5_init_14 fX5_14 ⟨_, rfl, rfl⟩ rfl ((s_11 a (ad_0lt (j := 1) (by decide))).trans ((s_5 a (ad_0ne (j := 1) (by decide))).trans hx)) (Nat.le_trans (Nat.le_of_eq l_11) hlo) rfl rfl (Nat.le_of_ble_eq_true rfl) ?_
  refine rg_gen (fun h_14 o_14 s_14 l_14 n_14 k_14 => ?_)
  dsimp only [List.set] at o_14
  have n_14 := n_14.trans n_11
  have l_14 := l_14.trans l_11
  have k_14 : h_14.2.2.1 = h.2.2.1 + (122) := k_14.trans k_11
  refine r_return (pc := 17) dX5_init_17 rfl ?_
  have y := o_14
  try rw [J_0] at y
  exact ⟨rfl, ⟨(Nat.le_trans (Nat.le_of_eq l_14) hlo), y, ⟨(Nat.le_trans (Nat.le_trans (Nat.le_of_eq l_14) hlo) (Nat.le_add_right _ _)), ((s_14 (a + 1) (ad_ne0 (i := 1) (by decide))).trans F_11.gx), ((s_14 (a + 2) (ad_ne0 (i := 2) (by decide))).trans F_11.gc)⟩⟩, fun b hb => ((s_14 b (Nat.ne_of_lt hb)).trans ((s_11 b (b_lt (j := 1) hb)).trans ((s_5 b (b_ne (j := 1) hb)).trans rfl))), l_14, n_14, k_14⟩

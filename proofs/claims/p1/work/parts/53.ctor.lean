/-! ===== the class's constructors ===== -/
section RG
variable {G : mG} {l : Launch} {d : Nat} {M : mM} {pc : Nat} {ls : List (Option Value)} {st : List Value} {h : mH} {Q : Option Value → mH → Prop}
theorem rg_newC {index ci N z : Nat} {fs : List Value} (hdg : decode M.2.1 pc = .ok (.new index, 3)) (hc : mNewC M.1.cls index ci N fs) (hz : h.2.1 = z)
    (K : ∀ h1, hGet h1 z = some (.inl (ci, fs)) → onlyAt z h h1 → h1.1 = h.1 → h1.2.1 = z + 1 → h1.2.2.1 = h.2.2.1 + N → RUN G l d M (pc + 3) ls (.ref z :: st) h1 Q) : RUN G l d M pc ls st h Q := by
  subst hz
  exact r_newC hdg hc (K _ hGet_new_self (fun b hb => hGet_new_ne hb rfl) rfl rfl rfl)
theorem rg_newaR {n : Int} {index t z : Nat} {C : String} (hdg : decode M.2.1 pc = .ok (.anewarray index, 3)) (hG : G.2.map Prod.snd = mTy) (hty : mTy[t]? = some (.object C)) (hw1 : Cond.classLink M.1.cls index C ∈ lw_use) (hw2 : Cond.arrayOver (.object C) ∈ lw_use) (hz : h.2.1 = z) (hn : 0 ≤ n) (hm : n < 100000)
    (K : ∀ h1, hGet h1 z = some (.inr (.inr (t, n.toNat, fun _ => none))) → onlyAt z h h1 → h1.1 = h.1 → h1.2.1 = z + 1 → h1.2.2.1 = h.2.2.1 + n.toNat → RUN G l d M (pc + 3) ls (.ref z :: st) h1 Q) : RUN G l d M pc ls (.int (J n) :: st) h Q := by
  subst hz
  exact r_newaR hdg hG hty hw1 hw2 (by rw [J_0, J_lt ⟨by omega, by omega⟩ ⟨by decide, by decide⟩]; omega) (J_cl hn ⟨by omega, by omega⟩) (by omega) (K _ hGet_new_self (fun b hb => hGet_new_ne hb rfl) rfl rfl rfl)
theorem rg_aast {a t n ci v : Nat} {f : Nat → Option Nat} {i : Int} {r : vw_C} {vs : List Value} (hdg : decode M.2.1 pc = .ok (.aastore, 1)) (ho : hGet h a = some (.inr (.inr (t, n, f)))) (hov : hGet h v = some (.inl (ci, vs))) (hc : vwCl[ci]? = some r) (hG : G.2.map Prod.snd = mTy) (hty : mTy[t]? = some (.object r.1)) (hlo : h.1 ≤ a) (hr : InR i) (h0 : 0 ≤ i) (h1 : i < n)
    (K : ∀ h1, hGet h1 a = some (.inr (.inr (t, n, va_up f i.toNat (some v)))) → onlyAt a h h1 → h1.1 = h.1 → h1.2.1 = h.2.1 → h1.2.2.1 = h.2.2.1 → RUN G l d M (pc + 1) ls st h1 Q) : RUN G l d M pc ls (.ref v :: .int (J i) :: .ref a :: st) h Q :=
  r_aast hdg ho hov hc hG hty hlo (J_in hr h0 h1) (by rw [J_cl h0 hr]; exact rg_gen K)
end RG
def Grow (a : Nat) (h h' : mH) : Prop := ∀ b, b < a → hGet h' b = hGet h b
theorem fill_s (a i : Nat) : va_up (fun q => if q < i then some (a + q) else none) i (some (a + i)) = fun q => if q < i + 1 then some (a + q) else none := by
  funext q
  unfold va_up
  repeat' split
  all_goals first | rfl | (exfalso; omega) | (subst_vars; rfl)
theorem fill_0 (a : Nat) : (fun _ => none : Nat → Option Nat) = fun q => if q < 0 then some (a + q) else none := by
  funext q
  simp
set_option maxHeartbeats 4000000 in
set_option maxRecDepth 100000 in
theorem ki_init {G : mG} {l : Launch} (d : Nat) (hG : G.2.map Prod.snd = mTy) {h : mH} {a : Nat} {N : Nat} (hN : N ≤ 1000) (hx : hGet h a = some (.inl (1, [.null, .int 0]))) (hlo : h.1 ≤ a) (hn : h.2.1 = a + 1) : RUNM G l (d + 1) mX1_init [.ref a, .int (J (N : Int))] h (fun v h' => v = none ∧ isI h' a N 0 (fun _ => 0) ∧ Grow a h h' ∧ h'.1 = h.1 ∧ h'.2.1 = a + 2 ∧ h'.2.2.1 = h.2.2.1 + N) := by
  refine RUNM.of (by decide +kernel) (Nat.le_of_ble_eq_true rfl) ?_
  refine r_aload_n (pc := 0) dX1_init_0 rfl rfl ?_
  refine r_objInit (pc := 1) dX1_init_1 kX1_1 (Nat.le_of_ble_eq_true rfl) ?_
  refine r_aload_n (pc := 4) dX1_init_4 rfl rfl ?_
  refine r_iload_n (pc := 5) dX1_init_5 rfl ?_
  refine rj_if_ge (pc := 6) (tgt := 13) dX1_init_6 (by decide) ⟨by omega, by omega⟩ (fun c_6 => ?_) (fun c_6 => absurd (Int.natCast_nonneg N) c_6)
  refine r_iload_n (pc := 13) dX1_init_13 rfl ?_
  refine rg_newaI (pc := 14) (z := a + 1) dX1_init_14 hG (hn.trans (by omega)) (by omega) (by omega) (fun h_14 o_14 s_14 l_14 n_14 k_14 => ?_)
  refine r_putF (pc := 16) dX1_init_16 fX1_7 ⟨_, rfl, rfl⟩ rfl ((s_14 (a) (by omega)).trans hx) (by omega) rfl rfl (Nat.le_of_ble_eq_true rfl) ?_
  refine rg_gen (fun h_16 o_16 s_16 l_16 n_16 k_16 => ?_)
  dsimp only [List.set] at o_16
  have n_16 := n_16.trans n_14
  refine r_return (pc := 19) dX1_init_19 rfl ?_
  refine ⟨rfl, ⟨by omega, ?_, ?_⟩, fun b hb => ((s_16 b (by omega)).trans ((s_14 b (by omega)).trans rfl)), by omega, by omega, by omega⟩
  · have y := o_16; rw [J_0] at y; exact y
  · have y := ((s_16 (a + 1) (by omega)).trans o_14); exact y
set_option maxHeartbeats 4000000 in
set_option maxRecDepth 100000 in
theorem k_X8 {G : mG} {l : Launch} (d : Nat) {h : mH} {a : Nat} : RUNM G l (d + 1) mX8_init [.ref a] h (fun v h' => v = none ∧ h' = h) := by
  refine RUNM.of (by decide +kernel) (Nat.le_of_ble_eq_true rfl) ?_
  refine r_aload_n (pc := 0) dX8_init_0 rfl (by first | rfl | exact isRefV_rf _) ?_
  refine r_objInit (pc := 1) dX8_init_1 kX8_1 (Nat.le_of_ble_eq_true rfl) ?_
  refine r_return (pc := 4) dX8_init_4 rfl ?_
  exact ⟨rfl, rfl⟩
set_option maxHeartbeats 4000000 in
set_option maxRecDepth 100000 in
theorem k_X4 {G : mG} {l : Launch} (d : Nat) {h : mH} {a : Nat} : RUNM G l (d + 1) mX4_init [.ref a] h (fun v h' => v = none ∧ h' = h) := by
  refine RUNM.of (by decide +kernel) (Nat.le_of_ble_eq_true rfl) ?_
  refine r_aload_n (pc := 0) dX4_init_0 rfl (by first | rfl | exact isRefV_rf _) ?_
  refine r_objInit (pc := 1) dX4_init_1 kX4_1 (Nat.le_of_ble_eq_true rfl) ?_
  refine r_return (pc := 4) dX4_init_4 rfl ?_
  exact ⟨rfl, rfl⟩
set_option maxHeartbeats 4000000 in
set_option maxRecDepth 100000 in
theorem k_X7 {G : mG} {l : Launch} (d : Nat) {h : mH} {a : Nat} : RUNM G l (d + 1) mX7_init [.ref a] h (fun v h' => v = none ∧ h' = h) := by
  refine RUNM.of (by decide +kernel) (Nat.le_of_ble_eq_true rfl) ?_
  refine r_aload_n (pc := 0) dX7_init_0 rfl (by first | rfl | exact isRefV_rf _) ?_
  refine r_objInit (pc := 1) dX7_init_1 kX7_3 (Nat.le_of_ble_eq_true rfl) ?_
  refine r_return (pc := 4) dX7_init_4 rfl ?_
  exact ⟨rfl, rfl⟩
def zFa (h : mH) (a : Nat) : Prop := hGet h a = some (.inl (0, [.ref (a + 1), .ref (a + 3), .ref (a + 5), .int 0])) ∧ isI h (a + 1) 90 0 (fun _ => 0) ∧ isI h (a + 3) 90 0 (fun _ => 0) ∧ isI h (a + 5) 90 0 (fun _ => 0)
set_option maxHeartbeats 4000000 in
set_option maxRecDepth 100000 in
theorem k_X0 {G : mG} {l : Launch} (d : Nat) (hG : G.2.map Prod.snd = mTy) {h : mH} {a : Nat} (hx : hGet h a = some (.inl (0, [.null, .null, .null, .int 0]))) (hlo : h.1 ≤ a) (hn : h.2.1 = a + 1) : RUNM G l (d + 2) mX0_init [.ref a] h (fun v h' => v = none ∧ zFa h' a ∧ Grow a h h' ∧ h'.1 = h.1 ∧ h'.2.1 = a + 7 ∧ h'.2.2.1 = h.2.2.1 + 276) := by
  refine RUNM.of (by decide +kernel) (Nat.le_of_ble_eq_true rfl) ?_
  refine r_aload_n (pc := 0) dX0_init_0 rfl rfl ?_
  refine r_objInit (pc := 1) dX0_init_1 kX0_3 (Nat.le_of_ble_eq_true rfl) ?_
  refine r_aload_n (pc := 4) dX0_init_4 rfl rfl ?_
  refine rg_newC (pc := 5) (z := a + 1) dX0_init_5 cX0_9 (hn.trans (by omega)) (fun h_5 o_5 s_5 l_5 n_5 k_5 => ?_)
  refine r_dup (pc := 8) dX0_init_8 rfl ?_
  refine rj_bipush (pc := 9) dX0_init_9 (by decide +kernel) ?_
  refine r_callI1 (pc := 11) dX0_init_11 qX1_init rfl kX0_11 rfl iX1_init (Nat.le_of_ble_eq_true rfl) (ki_init d hG (N := 90) (by decide) o_5 (by omega) (n_5.trans (by omega))) (fun v_11 h_11 q_11 => ?_)
  obtain ⟨rfl, F_11, s_11, l_11, n_11, k_11⟩ := q_11
  refine r_putF (pc := 14) dX0_init_14 fX0_14 ⟨_, rfl, rfl⟩ rfl ((s_11 (a) (by omega)).trans ((s_5 (a) (by omega)).trans hx)) (by omega) rfl rfl (Nat.le_of_ble_eq_true rfl) ?_
  refine rg_gen (fun h_14 o_14 s_14 l_14 n_14 k_14 => ?_)
  dsimp only [List.set] at o_14
  have n_14 := n_14.trans n_11
  refine r_aload_n (pc := 17) dX0_init_17 rfl rfl ?_
  refine rg_newC (pc := 18) (z := a + 3) dX0_init_18 cX0_9 (n_14.trans (by omega)) (fun h_18 o_18 s_18 l_18 n_18 k_18 => ?_)
  refine r_dup (pc := 21) dX0_init_21 rfl ?_
  refine rj_bipush (pc := 22) dX0_init_22 (by decide +kernel) ?_
  refine r_callI1 (pc := 24) dX0_init_24 qX1_init rfl kX0_11 rfl iX1_init (Nat.le_of_ble_eq_true rfl) (ki_init d hG (N := 90) (by decide) o_18 (by omega) (n_18.trans (by omega))) (fun v_24 h_24 q_24 => ?_)
  obtain ⟨rfl, F_24, s_24, l_24, n_24, k_24⟩ := q_24
  refine r_putF (pc := 27) dX0_init_27 fX0_20 ⟨_, rfl, rfl⟩ rfl ((s_24 (a) (by omega)).trans ((s_18 (a) (by omega)).trans o_14)) (by omega) rfl rfl (Nat.le_of_ble_eq_true rfl) ?_
  refine rg_gen (fun h_27 o_27 s_27 l_27 n_27 k_27 => ?_)
  dsimp only [List.set] at o_27
  have n_27 := n_27.trans n_24
  refine r_aload_n (pc := 30) dX0_init_30 rfl rfl ?_
  refine rg_newC (pc := 31) (z := a + 5) dX0_init_31 cX0_9 (n_27.trans (by omega)) (fun h_31 o_31 s_31 l_31 n_31 k_31 => ?_)
  refine r_dup (pc := 34) dX0_init_34 rfl ?_
  refine rj_bipush (pc := 35) dX0_init_35 (by decide +kernel) ?_
  refine r_callI1 (pc := 37) dX0_init_37 qX1_init rfl kX0_11 rfl iX1_init (Nat.le_of_ble_eq_true rfl) (ki_init d hG (N := 90) (by decide) o_31 (by omega) (n_31.trans (by omega))) (fun v_37 h_37 q_37 => ?_)
  obtain ⟨rfl, F_37, s_37, l_37, n_37, k_37⟩ := q_37
  refine r_putF (pc := 40) dX0_init_40 fX0_23 ⟨_, rfl, rfl⟩ rfl ((s_37 (a) (by omega)).trans ((s_31 (a) (by omega)).trans o_27)) (by omega) rfl rfl (Nat.le_of_ble_eq_true rfl) ?_
  refine rg_gen (fun h_40 o_40 s_40 l_40 n_40 k_40 => ?_)
  dsimp only [List.set] at o_40
  have n_40 := n_40.trans n_37
  refine r_return (pc := 43) dX0_init_43 rfl ?_
  refine ⟨rfl, ⟨o_40, ⟨by omega, ((s_40 (a + 1) (by omega)).trans ((s_37 (a + 1) (by omega)).trans ((s_31 (a + 1) (by omega)).trans ((s_27 (a + 1) (by omega)).trans ((s_24 (a + 1) (by omega)).trans ((s_18 (a + 1) (by omega)).trans ((s_14 (a + 1) (by omega)).trans F_11.gx))))))), ((s_40 (a + 1 + 1) (by omega)).trans ((s_37 (a + 1 + 1) (by omega)).trans ((s_31 (a + 1 + 1) (by omega)).trans ((s_27 (a + 1 + 1) (by omega)).trans ((s_24 (a + 1 + 1) (by omega)).trans ((s_18 (a + 1 + 1) (by omega)).trans ((s_14 (a + 1 + 1) (by omega)).trans F_11.gc)))))))⟩, ⟨by omega, ((s_40 (a + 3) (by omega)).trans ((s_37 (a + 3) (by omega)).trans ((s_31 (a + 3) (by omega)).trans ((s_27 (a + 3) (by omega)).trans F_24.gx)))), ((s_40 (a + 3 + 1) (by omega)).trans ((s_37 (a + 3 + 1) (by omega)).trans ((s_31 (a + 3 + 1) (by omega)).trans ((s_27 (a + 3 + 1) (by omega)).trans F_24.gc))))⟩, ⟨by omega, ((s_40 (a + 5) (by omega)).trans F_37.gx), ((s_40 (a + 5 + 1) (by omega)).trans F_37.gc)⟩⟩, fun b hb => ((s_40 b (by omega)).trans ((s_37 b (by omega)).trans ((s_31 b (by omega)).trans ((s_27 b (by omega)).trans ((s_24 b (by omega)).trans ((s_18 b (by omega)).trans ((s_14 b (by omega)).trans ((s_11 b (by omega)).trans ((s_5 b (by omega)).trans rfl))))))))), by omega, by omega, by omega⟩
set_option maxHeartbeats 4000000 in
set_option maxRecDepth 100000 in
theorem k_X2 {G : mG} {l : Launch} (d : Nat) (hG : G.2.map Prod.snd = mTy) {h : mH} {a : Nat} (hx : hGet h a = some (.inl (2, [.null, .int 0, .int 0, .int 0]))) (hlo : h.1 ≤ a) (hn : h.2.1 = a + 1) : RUNM G l (d + 2) mX2_init [.ref a] h (fun v h' => v = none ∧ isRd h' a 0 0 0 0 (fun _ => 0) ∧ Grow a h h' ∧ h'.1 = h.1 ∧ h'.2.1 = a + 3 ∧ h'.2.2.1 = h.2.2.1 + 122) := by
  refine RUNM.of (by decide +kernel) (Nat.le_of_ble_eq_true rfl) ?_
  refine r_aload_n (pc := 0) dX2_init_0 rfl rfl ?_
  refine r_objInit (pc := 1) dX2_init_1 kX2_3 (Nat.le_of_ble_eq_true rfl) ?_
  refine r_aload_n (pc := 4) dX2_init_4 rfl rfl ?_
  refine rg_newC (pc := 5) (z := a + 1) dX2_init_5 cX2_9 (hn.trans (by omega)) (fun h_5 o_5 s_5 l_5 n_5 k_5 => ?_)
  refine r_dup (pc := 8) dX2_init_8 rfl ?_
  refine rj_bipush (pc := 9) dX2_init_9 (by decide +kernel) ?_
  refine r_callI1 (pc := 11) dX2_init_11 qX1_init rfl kX2_11 rfl iX1_init (Nat.le_of_ble_eq_true rfl) (ki_init d hG (N := 120) (by decide) o_5 (by omega) (n_5.trans (by omega))) (fun v_11 h_11 q_11 => ?_)
  obtain ⟨rfl, F_11, s_11, l_11, n_11, k_11⟩ := q_11
  refine r_putF (pc := 14) dX2_init_14 fX2_14 ⟨_, rfl, rfl⟩ rfl ((s_11 (a) (by omega)).trans ((s_5 (a) (by omega)).trans hx)) (by omega) rfl rfl (Nat.le_of_ble_eq_true rfl) ?_
  refine rg_gen (fun h_14 o_14 s_14 l_14 n_14 k_14 => ?_)
  dsimp only [List.set] at o_14
  have n_14 := n_14.trans n_11
  refine r_return (pc := 17) dX2_init_17 rfl ?_
  have y := o_14
  try rw [J_0] at y
  exact ⟨rfl, ⟨by omega, y, ⟨by show _ ≤ a + 1; omega, ((s_14 (a + 1) (by omega)).trans F_11.gx), ((s_14 (a + 1 + 1) (by omega)).trans F_11.gc)⟩⟩, fun b hb => ((s_14 b (by omega)).trans ((s_11 b (by omega)).trans ((s_5 b (by omega)).trans rfl))), by omega, by omega, by omega⟩
set_option maxHeartbeats 4000000 in
set_option maxRecDepth 100000 in
theorem k_X5 {G : mG} {l : Launch} (d : Nat) (hG : G.2.map Prod.snd = mTy) {h : mH} {a : Nat} (hx : hGet h a = some (.inl (5, [.null]))) (hlo : h.1 ≤ a) (hn : h.2.1 = a + 1) : RUNM G l (d + 2) mX5_init [.ref a] h (fun v h' => v = none ∧ isSp h' a 0 (fun _ => 0) ∧ Grow a h h' ∧ h'.1 = h.1 ∧ h'.2.1 = a + 3 ∧ h'.2.2.1 = h.2.2.1 + 122) := by
  refine RUNM.of (by decide +kernel) (Nat.le_of_ble_eq_true rfl) ?_
  refine r_aload_n (pc := 0) dX5_init_0 rfl rfl ?_
  refine r_objInit (pc := 1) dX5_init_1 kX5_3 (Nat.le_of_ble_eq_true rfl) ?_
  refine r_aload_n (pc := 4) dX5_init_4 rfl rfl ?_
  refine rg_newC (pc := 5) (z := a + 1) dX5_init_5 cX5_9 (hn.trans (by omega)) (fun h_5 o_5 s_5 l_5 n_5 k_5 => ?_)
  refine r_dup (pc := 8) dX5_init_8 rfl ?_
  refine rj_bipush (pc := 9) dX5_init_9 (by decide +kernel) ?_
  refine r_callI1 (pc := 11) dX5_init_11 qX1_init rfl kX5_11 rfl iX1_init (Nat.le_of_ble_eq_true rfl) (ki_init d hG (N := 120) (by decide) o_5 (by omega) (n_5.trans (by omega))) (fun v_11 h_11 q_11 => ?_)
  obtain ⟨rfl, F_11, s_11, l_11, n_11, k_11⟩ := q_11
  refine r_putF (pc := 14) dX5_init_14 fX5_14 ⟨_, rfl, rfl⟩ rfl ((s_11 (a) (by omega)).trans ((s_5 (a) (by omega)).trans hx)) (by omega) rfl rfl (Nat.le_of_ble_eq_true rfl) ?_
  refine rg_gen (fun h_14 o_14 s_14 l_14 n_14 k_14 => ?_)
  dsimp only [List.set] at o_14
  have n_14 := n_14.trans n_11
  refine r_return (pc := 17) dX5_init_17 rfl ?_
  have y := o_14
  try rw [J_0] at y
  exact ⟨rfl, ⟨by omega, y, ⟨by show _ ≤ a + 1; omega, ((s_14 (a + 1) (by omega)).trans F_11.gx), ((s_14 (a + 1 + 1) (by omega)).trans F_11.gc)⟩⟩, fun b hb => ((s_14 b (by omega)).trans ((s_11 b (by omega)).trans ((s_5 b (by omega)).trans rfl))), by omega, by omega, by omega⟩

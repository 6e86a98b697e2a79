/-! ===== the class's constructors: a Runner, the keeper ===== -/
section RA
variable {G : mG} {l : Launch} {d : Nat} {M : mM} {pc : Nat} {ls : List (Option Value)} {st : List Value} {h : mH} {Q : Option Value → mH → Prop}
theorem rg_aald {i : Int} {c t n b : Nat} {f : Nat → Option Nat} (hdg : decode M.2.1 pc = .ok (.aaload, 1)) (ho : hGet h c = some (.inr (.inr (t, n, f)))) (hr : InR i) (h0 : 0 ≤ i) (h1 : i < n) (hv : f i.toNat = some b) (K : RUN G l d M (pc + 1) ls (.ref b :: st) h Q) : RUN G l d M pc ls (.int (J i) :: .ref c :: st) h Q :=
  rj_aald hdg ho hr h0 h1 (by rw [hv]; exact K)
end RA
def kA (x k : Nat) : Nat := x + k
def kR (x q : Nat) : Nat := x + 188 + 2 * q
def rowR (x : Nat) : Nat → Option Nat := fun q => if q < 4 then some (kR x q) else none
noncomputable def kFsF (x : Nat) (kp tk : Option Nat) : List Value := [.ref (kA x 1), .ref (rA (kA x 1) 1), .ref (kA x 4), .ref (rA (kA x 4) 1), .ref (kA x 7), .ref (kA x 8), .ref (rA (kA x 8) 1), va_rf kp, va_rf tk]
def isK (h : mH) (x : Nat) (kp tk : Option Nat) (zr : Nat → Int) (fr : Nat → Nat → Int) (p e o zt : Int) (ft : Nat → Int) (zs : Int) (fs : Nat → Int) (b za : Int) (fa : Nat → Int) (c : Nat → Int) (C : Nat → Nat → Int) (nm : Nat → Int64) (g : Nat → Option Nat) : Prop :=
  h.1 ≤ x ∧ hGet h x = some (.inl (10, kFsF x kp tk)) ∧ isRd h (kA x 1) p e o zt ft ∧ isSp h (kA x 4) zs fs ∧ hGet h (kA x 7) = some (.inr (.inr (1, 4, rowR x))) ∧ isR h (kA x 8) b za fa c C nm g ∧ ∀ q, q < 4 → isI h (kR x q) 40 (zr q) (fr q)
def kBlk (x : Nat) : Nat → Prop := fun b => x ≤ b ∧ b < x + 196
section IK
variable {h : mH} {x : Nat} {kp tk : Option Nat} {zr : Nat → Int} {fr : Nat → Nat → Int} {p e o zt : Int} {ft : Nat → Int} {zs : Int} {fs : Nat → Int} {b za : Int} {fa : Nat → Int} {c : Nat → Int} {C : Nat → Nat → Int} {nm : Nat → Int64} {g : Nat → Option Nat}
theorem isK.lo (k : isK h x kp tk zr fr p e o zt ft zs fs b za fa c C nm g) : h.1 ≤ x := k.1
theorem isK.gx (k : isK h x kp tk zr fr p e o zt ft zs fs b za fa c C nm g) : hGet h x = some (.inl (10, kFsF x kp tk)) := k.2.1
theorem isK.d (k : isK h x kp tk zr fr p e o zt ft zs fs b za fa c C nm g) : isRd h (kA x 1) p e o zt ft := k.2.2.1
theorem isK.s (k : isK h x kp tk zr fr p e o zt ft zs fs b za fa c C nm g) : isSp h (kA x 4) zs fs := k.2.2.2.1
theorem isK.gr (k : isK h x kp tk zr fr p e o zt ft zs fs b za fa c C nm g) : hGet h (kA x 7) = some (.inr (.inr (1, 4, rowR x))) := k.2.2.2.2.1
theorem isK.r (k : isK h x kp tk zr fr p e o zt ft zs fs b za fa c C nm g) : isR h (kA x 8) b za fa c C nm g := k.2.2.2.2.2.1
theorem isK.w (k : isK h x kp tk zr fr p e o zt ft zs fs b za fa c C nm g) : isW h (rA (kA x 8) 1) c C nm g := k.r.w
theorem isK.row (k : isK h x kp tk zr fr p e o zt ft zs fs b za fa c C nm g) {q : Nat} (hq : q < 4) : isI h (kR x q) 40 (zr q) (fr q) := k.2.2.2.2.2.2 q hq
end IK
def isF (h : mH) (x : Nat) : Prop := isK h x none none (fun _ => -11) (fun _ => w0) 0 0 0 0 w0 0 w0 0 0 w0 wc0 wC0 wn0 wg0
theorem four {P : Nat → Prop} (h0 : P 0) (h1 : P 1) (h2 : P 2) (h3 : P 3) : ∀ q, q < 4 → P q := by
  intro q hq
  match q, hq with
  | 0, _ => exact h0
  | 1, _ => exact h1
  | 2, _ => exact h2
  | 3, _ => exact h3
  | k + 4, hk => omega
set_option maxHeartbeats 4000000 in
set_option maxRecDepth 100000 in
theorem k_X3 {G : mG} {l : Launch} (d : Nat) (hG : G.2.map Prod.snd = mTy) {h : mH} {a : Nat} (hx : hGet h a = some (.inl (3, [.null, .null, .int 0]))) (hlo : h.1 ≤ a) (hn : h.2.1 = a + 1) : RUNM G l (d + 4) mX3_init [.ref a] h (fun v h' => v = none ∧ isR h' a 0 0 w0 wc0 wC0 wn0 wg0 ∧ Grow a h h' ∧ h'.1 = h.1 ∧ h'.2.1 = a + 180 ∧ h'.2.2.1 = h.2.2.1 + 1697) := by
  refine RUNM.of (by decide +kernel) (Nat.le_of_ble_eq_true rfl) ?_
  refine r_aload_n (pc := 0) dX3_init_0 rfl rfl ?_
  refine r_objInit (pc := 1) dX3_init_1 kX3_3 (Nat.le_of_ble_eq_true rfl) ?_
  refine r_aload_n (pc := 4) dX3_init_4 rfl rfl ?_
  refine rg_newC (pc := 5) (z := a + 1) dX3_init_5 cX3_9 (hn.trans (by omega)) (fun h_5 o_5 s_5 l_5 n_5 k_5 => ?_)
  refine r_dup (pc := 8) dX3_init_8 rfl ?_
  refine r_callI0 (pc := 9) dX3_init_9 qX9_init rfl kX3_11 rfl iX9_init (Nat.le_of_ble_eq_true rfl) (k_X9 d hG o_5 (by omega) (n_5.trans (by omega))) (fun v_9 h_9 q_9 => ?_)
  obtain ⟨rfl, F_9, s_9, l_9, n_9, k_9⟩ := q_9
  refine r_putF (pc := 12) dX3_init_12 fX3_12 ⟨_, rfl, rfl⟩ rfl ((s_9 (a) (by omega)).trans ((s_5 (a) (by omega)).trans hx)) (by omega) rfl rfl (Nat.le_of_ble_eq_true rfl) ?_
  refine rg_gen (fun h_12 o_12 s_12 l_12 n_12 k_12 => ?_)
  dsimp only [List.set] at o_12
  have n_12 := n_12.trans n_9
  refine r_aload_n (pc := 15) dX3_init_15 rfl rfl ?_
  refine rg_newC (pc := 16) (z := a + 178) dX3_init_16 cX3_18 (n_12.trans (by omega)) (fun h_16 o_16 s_16 l_16 n_16 k_16 => ?_)
  refine r_dup (pc := 19) dX3_init_19 rfl ?_
  refine rj_sipush (pc := 20) dX3_init_20 (by decide +kernel) ?_
  refine r_callI1 (pc := 23) dX3_init_23 qX1_init rfl kX3_20 rfl iX1_init (Nat.le_of_ble_eq_true rfl) (ki_init (d + 2) hG (N := 160) (by decide) o_16 (by omega) (n_16.trans (by omega))) (fun v_23 h_23 q_23 => ?_)
  obtain ⟨rfl, F_23, s_23, l_23, n_23, k_23⟩ := q_23
  refine r_putF (pc := 26) dX3_init_26 fX3_23 ⟨_, rfl, rfl⟩ rfl ((s_23 (a) (by omega)).trans ((s_16 (a) (by omega)).trans o_12)) (by omega) rfl rfl (Nat.le_of_ble_eq_true rfl) ?_
  refine rg_gen (fun h_26 o_26 s_26 l_26 n_26 k_26 => ?_)
  dsimp only [List.set] at o_26
  have n_26 := n_26.trans n_23
  refine r_return (pc := 29) dX3_init_29 rfl ?_
  have y := o_26
  try rw [J_0] at y
  have hW := F_9.keep2 (h' := h_26) (by omega) (fun b hb => by unfold wBlk at hb; exact ((s_26 b (by omega)).trans ((s_23 b (by omega)).trans ((s_16 b (by omega)).trans ((s_12 b (by omega)).trans rfl)))))
  exact ⟨rfl, ⟨by omega, y, hW, ⟨by show _ ≤ a + 178; omega, ((s_26 (a + 178) (by omega)).trans F_23.gx), ((s_26 (a + 178 + 1) (by omega)).trans F_23.gc)⟩⟩, fun b hb => ((s_26 b (by omega)).trans ((s_23 b (by omega)).trans ((s_16 b (by omega)).trans ((s_12 b (by omega)).trans ((s_9 b (by omega)).trans ((s_5 b (by omega)).trans rfl)))))), by omega, by omega, by omega⟩
set_option maxHeartbeats 4000000 in
set_option maxRecDepth 100000 in
theorem k_X10 {G : mG} {l : Launch} (d : Nat) (hG : G.2.map Prod.snd = mTy) {h : mH} {a : Nat} (hx : hGet h a = some (.inl (10, [.null, .null, .null, .null, .null, .null, .null, .null, .null]))) (hlo : h.1 ≤ a) (hn : h.2.1 = a + 1) : RUNM G l (d + 5) mX10_init [.ref a] h (fun v h' => v = none ∧ isF h' a ∧ Grow a h h' ∧ h'.1 = h.1 ∧ h'.2.1 = a + 196 ∧ h'.2.2.1 = h.2.2.1 + 2121) := by
  refine RUNM.of (by decide +kernel) (Nat.le_of_ble_eq_true rfl) ?_
  refine r_aload_n (pc := 0) dX10_init_0 rfl rfl ?_
  refine r_objInit (pc := 1) dX10_init_1 kX10_3 (Nat.le_of_ble_eq_true rfl) ?_
  refine r_aload_n (pc := 4) dX10_init_4 rfl rfl ?_
  refine rg_newC (pc := 5) (z := a + 1) dX10_init_5 cX10_9 (hn.trans (by omega)) (fun h_5 o_5 s_5 l_5 n_5 k_5 => ?_)
  refine r_dup (pc := 8) dX10_init_8 rfl ?_
  refine r_callI0 (pc := 9) dX10_init_9 qX2_init rfl kX10_11 rfl iX2_init (Nat.le_of_ble_eq_true rfl) (k_X2 (d + 2) hG o_5 (by omega) (n_5.trans (by omega))) (fun v_9 h_9 q_9 => ?_)
  obtain ⟨rfl, F_9, s_9, l_9, n_9, k_9⟩ := q_9
  refine r_putF (pc := 12) dX10_init_12 fX10_12 ⟨_, rfl, rfl⟩ rfl ((s_9 (a) (by omega)).trans ((s_5 (a) (by omega)).trans hx)) (by omega) rfl rfl (Nat.le_of_ble_eq_true rfl) ?_
  refine rg_gen (fun h_12 o_12 s_12 l_12 n_12 k_12 => ?_)
  dsimp only [List.set] at o_12
  have n_12 := n_12.trans n_9
  refine r_aload_n (pc := 15) dX10_init_15 rfl rfl ?_
  refine r_aload_n (pc := 16) dX10_init_16 rfl rfl ?_
  refine r_getf (pc := 17) dX10_init_17 fX10_12 o_12 rfl ?_
  refine r_getf (pc := 20) dX10_init_20 fX10_18 ((s_12 (a + 1) (by omega)).trans F_9.gx) rfl ?_
  refine r_putF (pc := 23) dX10_init_23 fX10_22 ⟨_, rfl, rfl⟩ rfl o_12 (by omega) rfl rfl (Nat.le_of_ble_eq_true rfl) ?_
  refine rg_gen (fun h_23 o_23 s_23 l_23 n_23 k_23 => ?_)
  dsimp only [List.set] at o_23
  have n_23 := n_23.trans n_12
  refine r_aload_n (pc := 26) dX10_init_26 rfl rfl ?_
  refine rg_newC (pc := 27) (z := a + 4) dX10_init_27 cX10_23 (n_23.trans (by omega)) (fun h_27 o_27 s_27 l_27 n_27 k_27 => ?_)
  refine r_dup (pc := 30) dX10_init_30 rfl ?_
  refine r_callI0 (pc := 31) dX10_init_31 qX5_init rfl kX10_25 rfl iX5_init (Nat.le_of_ble_eq_true rfl) (k_X5 (d + 2) hG o_27 (by omega) (n_27.trans (by omega))) (fun v_31 h_31 q_31 => ?_)
  obtain ⟨rfl, F_31, s_31, l_31, n_31, k_31⟩ := q_31
  refine r_putF (pc := 34) dX10_init_34 fX10_26 ⟨_, rfl, rfl⟩ rfl ((s_31 (a) (by omega)).trans ((s_27 (a) (by omega)).trans o_23)) (by omega) rfl rfl (Nat.le_of_ble_eq_true rfl) ?_
  refine rg_gen (fun h_34 o_34 s_34 l_34 n_34 k_34 => ?_)
  dsimp only [List.set] at o_34
  have n_34 := n_34.trans n_31
  refine r_aload_n (pc := 37) dX10_init_37 rfl rfl ?_
  refine r_aload_n (pc := 38) dX10_init_38 rfl rfl ?_
  refine r_getf (pc := 39) dX10_init_39 fX10_26 o_34 rfl ?_
  refine r_getf (pc := 42) dX10_init_42 fX10_30 ((s_34 (a + 4) (by omega)).trans F_31.gx) rfl ?_
  refine r_putF (pc := 45) dX10_init_45 fX10_33 ⟨_, rfl, rfl⟩ rfl o_34 (by omega) rfl rfl (Nat.le_of_ble_eq_true rfl) ?_
  refine rg_gen (fun h_45 o_45 s_45 l_45 n_45 k_45 => ?_)
  dsimp only [List.set] at o_45
  have n_45 := n_45.trans n_34
  refine r_aload_n (pc := 48) dX10_init_48 rfl rfl ?_
  refine rj_iconst (pc := 49) dX10_init_49 ?_
  refine rg_newaR (pc := 50) (z := a + 7) (t := 1) dX10_init_50 hG rfl aX10_34 w_Ints (n_45.trans (by omega)) (by decide) (by decide) (fun h_50 o_50 s_50 l_50 n_50 k_50 => ?_)
  refine r_putF (pc := 53) dX10_init_53 fX10_36 ⟨_, rfl, rfl⟩ rfl ((s_50 (a) (by omega)).trans o_45) (by omega) rfl rfl (Nat.le_of_ble_eq_true rfl) ?_
  refine rg_gen (fun h_53 o_53 s_53 l_53 n_53 k_53 => ?_)
  dsimp only [List.set] at o_53
  have n_53 := n_53.trans n_50
  refine r_aload_n (pc := 56) dX10_init_56 rfl rfl ?_
  refine rg_newC (pc := 57) (z := a + 8) dX10_init_57 cX10_40 (n_53.trans (by omega)) (fun h_57 o_57 s_57 l_57 n_57 k_57 => ?_)
  refine r_dup (pc := 60) dX10_init_60 rfl ?_
  refine r_callI0 (pc := 61) dX10_init_61 qX3_init rfl kX10_42 rfl iX3_init (Nat.le_of_ble_eq_true rfl) (k_X3 d hG o_57 (by omega) (n_57.trans (by omega))) (fun v_61 h_61 q_61 => ?_)
  obtain ⟨rfl, F_61, s_61, l_61, n_61, k_61⟩ := q_61
  refine r_putF (pc := 64) dX10_init_64 fX10_43 ⟨_, rfl, rfl⟩ rfl ((s_61 (a) (by omega)).trans ((s_57 (a) (by omega)).trans o_53)) (by omega) rfl rfl (Nat.le_of_ble_eq_true rfl) ?_
  refine rg_gen (fun h_64 o_64 s_64 l_64 n_64 k_64 => ?_)
  dsimp only [List.set] at o_64
  have n_64 := n_64.trans n_61
  refine r_aload_n (pc := 67) dX10_init_67 rfl rfl ?_
  refine r_aload_n (pc := 68) dX10_init_68 rfl rfl ?_
  refine r_getf (pc := 69) dX10_init_69 fX10_43 o_64 rfl ?_
  refine r_getf (pc := 72) dX10_init_72 fX10_47 ((s_64 (a + 8) (by omega)).trans F_61.gx) rfl ?_
  refine r_putF (pc := 75) dX10_init_75 fX10_51 ⟨_, rfl, rfl⟩ rfl o_64 (by omega) rfl rfl (Nat.le_of_ble_eq_true rfl) ?_
  refine rg_gen (fun h_75 o_75 s_75 l_75 n_75 k_75 => ?_)
  dsimp only [List.set] at o_75
  have n_75 := n_75.trans n_64
  refine rj_iconst (pc := 78) dX10_init_78 ?_
  refine r_istore_n (pc := 79) dX10_init_79 (Nat.le_of_ble_eq_true rfl) ?_
  dsimp only [lsSt, List.set, mLs, mEnt]
  refine r_iload_n (pc := 80) dX10_init_80 rfl ?_
  refine r_aload_n (pc := 81) dX10_init_81 rfl rfl ?_
  refine r_getf (pc := 82) dX10_init_82 fX10_36 o_75 rfl ?_
  refine rj_alenR (pc := 85) dX10_init_85 ((s_75 (a + 7) (by omega)).trans ((s_64 (a + 7) (by omega)).trans ((s_61 (a + 7) (by omega)).trans ((s_57 (a + 7) (by omega)).trans ((s_53 (a + 7) (by omega)).trans o_50))))) ?_
  refine rj_icmp_ge (pc := 86) (tgt := 121) dX10_init_86 (by decide) (by decide) (by decide) (fun c_86 => absurd c_86 (by decide)) (fun c_86 => ?_)
  refine r_aload_n (pc := 89) dX10_init_89 rfl rfl ?_
  refine r_getf (pc := 90) dX10_init_90 fX10_36 o_75 rfl ?_
  refine r_iload_n (pc := 93) dX10_init_93 rfl ?_
  refine rg_newC (pc := 94) (z := a + 188) dX10_init_94 cX10_34 (n_75.trans (by omega)) (fun h_0n o_0n s_0n l_0n n_0n k_0n => ?_)
  refine r_dup (pc := 97) dX10_init_97 rfl ?_
  refine rj_bipush (pc := 98) dX10_init_98 (by decide +kernel) ?_
  refine r_callI1 (pc := 100) dX10_init_100 qX1_init rfl kX10_52 rfl iX1_init (Nat.le_of_ble_eq_true rfl) (ki_init (d + 3) hG (N := 40) (by decide) o_0n (by omega) (n_0n.trans (by omega))) (fun v_0i h_0i q_0i => ?_)
  obtain ⟨rfl, F_0i, s_0i, l_0i, n_0i, k_0i⟩ := q_0i
  refine rg_aast (pc := 103) dX10_init_103 ((s_0i (a + 7) (by omega)).trans ((s_0n (a + 7) (by omega)).trans ((s_75 (a + 7) (by omega)).trans ((s_64 (a + 7) (by omega)).trans ((s_61 (a + 7) (by omega)).trans ((s_57 (a + 7) (by omega)).trans ((s_53 (a + 7) (by omega)).trans o_50))))))) F_0i.gx rfl hG rfl (by omega) (by decide) (by decide) (by decide) (fun h_0s o_0s s_0s l_0s n_0s k_0s => ?_)
  have n_0s := n_0s.trans n_0i
  refine r_aload_n (pc := 104) dX10_init_104 rfl rfl ?_
  refine r_getf (pc := 105) dX10_init_105 fX10_36 ((s_0s (a) (by omega)).trans ((s_0i (a) (by omega)).trans ((s_0n (a) (by omega)).trans o_75))) rfl ?_
  refine r_iload_n (pc := 108) dX10_init_108 rfl ?_
  refine rg_aald (pc := 109) (b := a + 188) dX10_init_109 o_0s (by decide) (by decide) (by decide) (va_up_self _ _ _) ?_
  refine rj_bipush (pc := 110) dX10_init_110 (by decide +kernel) ?_
  refine r_putf (pc := 112) dX10_init_112 fX10_55 ((s_0s (a + 188) (by omega)).trans F_0i.gx) (by omega) rfl rfl (Nat.le_of_ble_eq_true rfl) ?_
  refine rg_gen (fun h_0z o_0z s_0z l_0z n_0z k_0z => ?_)
  dsimp only [List.set] at o_0z
  have n_0z := n_0z.trans n_0s
  refine rj_iinc (pc := 115) dX10_init_115 (Nat.le_of_ble_eq_true rfl) rfl ?_
  dsimp only [lsSt, List.set, mLs, mEnt]
  refine r_goto (pc := 118) (tgt := 80) dX10_init_118 (by decide) ?_
  refine r_iload_n (pc := 80) dX10_init_80 rfl ?_
  refine r_aload_n (pc := 81) dX10_init_81 rfl rfl ?_
  refine r_getf (pc := 82) dX10_init_82 fX10_36 ((s_0z (a) (by omega)).trans ((s_0s (a) (by omega)).trans ((s_0i (a) (by omega)).trans ((s_0n (a) (by omega)).trans o_75)))) rfl ?_
  refine rj_alenR (pc := 85) dX10_init_85 ((s_0z (a + 7) (by omega)).trans o_0s) ?_
  refine rj_icmp_ge (pc := 86) (tgt := 121) dX10_init_86 (by decide) (by decide) (by decide) (fun c_86 => absurd c_86 (by decide)) (fun c_86 => ?_)
  refine r_aload_n (pc := 89) dX10_init_89 rfl rfl ?_
  refine r_getf (pc := 90) dX10_init_90 fX10_36 ((s_0z (a) (by omega)).trans ((s_0s (a) (by omega)).trans ((s_0i (a) (by omega)).trans ((s_0n (a) (by omega)).trans o_75)))) rfl ?_
  refine r_iload_n (pc := 93) dX10_init_93 rfl ?_
  refine rg_newC (pc := 94) (z := a + 190) dX10_init_94 cX10_34 (n_0z.trans (by omega)) (fun h_1n o_1n s_1n l_1n n_1n k_1n => ?_)
  refine r_dup (pc := 97) dX10_init_97 rfl ?_
  refine rj_bipush (pc := 98) dX10_init_98 (by decide +kernel) ?_
  refine r_callI1 (pc := 100) dX10_init_100 qX1_init rfl kX10_52 rfl iX1_init (Nat.le_of_ble_eq_true rfl) (ki_init (d + 3) hG (N := 40) (by decide) o_1n (by omega) (n_1n.trans (by omega))) (fun v_1i h_1i q_1i => ?_)
  obtain ⟨rfl, F_1i, s_1i, l_1i, n_1i, k_1i⟩ := q_1i
  refine rg_aast (pc := 103) dX10_init_103 ((s_1i (a + 7) (by omega)).trans ((s_1n (a + 7) (by omega)).trans ((s_0z (a + 7) (by omega)).trans o_0s))) F_1i.gx rfl hG rfl (by omega) (by decide) (by decide) (by decide) (fun h_1s o_1s s_1s l_1s n_1s k_1s => ?_)
  have n_1s := n_1s.trans n_1i
  refine r_aload_n (pc := 104) dX10_init_104 rfl rfl ?_
  refine r_getf (pc := 105) dX10_init_105 fX10_36 ((s_1s (a) (by omega)).trans ((s_1i (a) (by omega)).trans ((s_1n (a) (by omega)).trans ((s_0z (a) (by omega)).trans ((s_0s (a) (by omega)).trans ((s_0i (a) (by omega)).trans ((s_0n (a) (by omega)).trans o_75))))))) rfl ?_
  refine r_iload_n (pc := 108) dX10_init_108 rfl ?_
  refine rg_aald (pc := 109) (b := a + 190) dX10_init_109 o_1s (by decide) (by decide) (by decide) (va_up_self _ _ _) ?_
  refine rj_bipush (pc := 110) dX10_init_110 (by decide +kernel) ?_
  refine r_putf (pc := 112) dX10_init_112 fX10_55 ((s_1s (a + 190) (by omega)).trans F_1i.gx) (by omega) rfl rfl (Nat.le_of_ble_eq_true rfl) ?_
  refine rg_gen (fun h_1z o_1z s_1z l_1z n_1z k_1z => ?_)
  dsimp only [List.set] at o_1z
  have n_1z := n_1z.trans n_1s
  refine rj_iinc (pc := 115) dX10_init_115 (Nat.le_of_ble_eq_true rfl) rfl ?_
  dsimp only [lsSt, List.set, mLs, mEnt]
  refine r_goto (pc := 118) (tgt := 80) dX10_init_118 (by decide) ?_
  refine r_iload_n (pc := 80) dX10_init_80 rfl ?_
  refine r_aload_n (pc := 81) dX10_init_81 rfl rfl ?_
  refine r_getf (pc := 82) dX10_init_82 fX10_36 ((s_1z (a) (by omega)).trans ((s_1s (a) (by omega)).trans ((s_1i (a) (by omega)).trans ((s_1n (a) (by omega)).trans ((s_0z (a) (by omega)).trans ((s_0s (a) (by omega)).trans ((s_0i (a) (by omega)).trans ((s_0n (a) (by omega)).trans o_75)))))))) rfl ?_
  refine rj_alenR (pc := 85) dX10_init_85 ((s_1z (a + 7) (by omega)).trans o_1s) ?_
  refine rj_icmp_ge (pc := 86) (tgt := 121) dX10_init_86 (by decide) (by decide) (by decide) (fun c_86 => absurd c_86 (by decide)) (fun c_86 => ?_)
  refine r_aload_n (pc := 89) dX10_init_89 rfl rfl ?_
  refine r_getf (pc := 90) dX10_init_90 fX10_36 ((s_1z (a) (by omega)).trans ((s_1s (a) (by omega)).trans ((s_1i (a) (by omega)).trans ((s_1n (a) (by omega)).trans ((s_0z (a) (by omega)).trans ((s_0s (a) (by omega)).trans ((s_0i (a) (by omega)).trans ((s_0n (a) (by omega)).trans o_75)))))))) rfl ?_
  refine r_iload_n (pc := 93) dX10_init_93 rfl ?_
  refine rg_newC (pc := 94) (z := a + 192) dX10_init_94 cX10_34 (n_1z.trans (by omega)) (fun h_2n o_2n s_2n l_2n n_2n k_2n => ?_)
  refine r_dup (pc := 97) dX10_init_97 rfl ?_
  refine rj_bipush (pc := 98) dX10_init_98 (by decide +kernel) ?_
  refine r_callI1 (pc := 100) dX10_init_100 qX1_init rfl kX10_52 rfl iX1_init (Nat.le_of_ble_eq_true rfl) (ki_init (d + 3) hG (N := 40) (by decide) o_2n (by omega) (n_2n.trans (by omega))) (fun v_2i h_2i q_2i => ?_)
  obtain ⟨rfl, F_2i, s_2i, l_2i, n_2i, k_2i⟩ := q_2i
  refine rg_aast (pc := 103) dX10_init_103 ((s_2i (a + 7) (by omega)).trans ((s_2n (a + 7) (by omega)).trans ((s_1z (a + 7) (by omega)).trans o_1s))) F_2i.gx rfl hG rfl (by omega) (by decide) (by decide) (by decide) (fun h_2s o_2s s_2s l_2s n_2s k_2s => ?_)
  have n_2s := n_2s.trans n_2i
  refine r_aload_n (pc := 104) dX10_init_104 rfl rfl ?_
  refine r_getf (pc := 105) dX10_init_105 fX10_36 ((s_2s (a) (by omega)).trans ((s_2i (a) (by omega)).trans ((s_2n (a) (by omega)).trans ((s_1z (a) (by omega)).trans ((s_1s (a) (by omega)).trans ((s_1i (a) (by omega)).trans ((s_1n (a) (by omega)).trans ((s_0z (a) (by omega)).trans ((s_0s (a) (by omega)).trans ((s_0i (a) (by omega)).trans ((s_0n (a) (by omega)).trans o_75))))))))))) rfl ?_
  refine r_iload_n (pc := 108) dX10_init_108 rfl ?_
  refine rg_aald (pc := 109) (b := a + 192) dX10_init_109 o_2s (by decide) (by decide) (by decide) (va_up_self _ _ _) ?_
  refine rj_bipush (pc := 110) dX10_init_110 (by decide +kernel) ?_
  refine r_putf (pc := 112) dX10_init_112 fX10_55 ((s_2s (a + 192) (by omega)).trans F_2i.gx) (by omega) rfl rfl (Nat.le_of_ble_eq_true rfl) ?_
  refine rg_gen (fun h_2z o_2z s_2z l_2z n_2z k_2z => ?_)
  dsimp only [List.set] at o_2z
  have n_2z := n_2z.trans n_2s
  refine rj_iinc (pc := 115) dX10_init_115 (Nat.le_of_ble_eq_true rfl) rfl ?_
  dsimp only [lsSt, List.set, mLs, mEnt]
  refine r_goto (pc := 118) (tgt := 80) dX10_init_118 (by decide) ?_
  refine r_iload_n (pc := 80) dX10_init_80 rfl ?_
  refine r_aload_n (pc := 81) dX10_init_81 rfl rfl ?_
  refine r_getf (pc := 82) dX10_init_82 fX10_36 ((s_2z (a) (by omega)).trans ((s_2s (a) (by omega)).trans ((s_2i (a) (by omega)).trans ((s_2n (a) (by omega)).trans ((s_1z (a) (by omega)).trans ((s_1s (a) (by omega)).trans ((s_1i (a) (by omega)).trans ((s_1n (a) (by omega)).trans ((s_0z (a) (by omega)).trans ((s_0s (a) (by omega)).trans ((s_0i (a) (by omega)).trans ((s_0n (a) (by omega)).trans o_75)))))))))))) rfl ?_
  refine rj_alenR (pc := 85) dX10_init_85 ((s_2z (a + 7) (by omega)).trans o_2s) ?_
  refine rj_icmp_ge (pc := 86) (tgt := 121) dX10_init_86 (by decide) (by decide) (by decide) (fun c_86 => absurd c_86 (by decide)) (fun c_86 => ?_)
  refine r_aload_n (pc := 89) dX10_init_89 rfl rfl ?_
  refine r_getf (pc := 90) dX10_init_90 fX10_36 ((s_2z (a) (by omega)).trans ((s_2s (a) (by omega)).trans ((s_2i (a) (by omega)).trans ((s_2n (a) (by omega)).trans ((s_1z (a) (by omega)).trans ((s_1s (a) (by omega)).trans ((s_1i (a) (by omega)).trans ((s_1n (a) (by omega)).trans ((s_0z (a) (by omega)).trans ((s_0s (a) (by omega)).trans ((s_0i (a) (by omega)).trans ((s_0n (a) (by omega)).trans o_75)))))))))))) rfl ?_
  refine r_iload_n (pc := 93) dX10_init_93 rfl ?_
  refine rg_newC (pc := 94) (z := a + 194) dX10_init_94 cX10_34 (n_2z.trans (by omega)) (fun h_3n o_3n s_3n l_3n n_3n k_3n => ?_)
  refine r_dup (pc := 97) dX10_init_97 rfl ?_
  refine rj_bipush (pc := 98) dX10_init_98 (by decide +kernel) ?_
  refine r_callI1 (pc := 100) dX10_init_100 qX1_init rfl kX10_52 rfl iX1_init (Nat.le_of_ble_eq_true rfl) (ki_init (d + 3) hG (N := 40) (by decide) o_3n (by omega) (n_3n.trans (by omega))) (fun v_3i h_3i q_3i => ?_)
  obtain ⟨rfl, F_3i, s_3i, l_3i, n_3i, k_3i⟩ := q_3i
  refine rg_aast (pc := 103) dX10_init_103 ((s_3i (a + 7) (by omega)).trans ((s_3n (a + 7) (by omega)).trans ((s_2z (a + 7) (by omega)).trans o_2s))) F_3i.gx rfl hG rfl (by omega) (by decide) (by decide) (by decide) (fun h_3s o_3s s_3s l_3s n_3s k_3s => ?_)
  have n_3s := n_3s.trans n_3i
  refine r_aload_n (pc := 104) dX10_init_104 rfl rfl ?_
  refine r_getf (pc := 105) dX10_init_105 fX10_36 ((s_3s (a) (by omega)).trans ((s_3i (a) (by omega)).trans ((s_3n (a) (by omega)).trans ((s_2z (a) (by omega)).trans ((s_2s (a) (by omega)).trans ((s_2i (a) (by omega)).trans ((s_2n (a) (by omega)).trans ((s_1z (a) (by omega)).trans ((s_1s (a) (by omega)).trans ((s_1i (a) (by omega)).trans ((s_1n (a) (by omega)).trans ((s_0z (a) (by omega)).trans ((s_0s (a) (by omega)).trans ((s_0i (a) (by omega)).trans ((s_0n (a) (by omega)).trans o_75))))))))))))))) rfl ?_
  refine r_iload_n (pc := 108) dX10_init_108 rfl ?_
  refine rg_aald (pc := 109) (b := a + 194) dX10_init_109 o_3s (by decide) (by decide) (by decide) (va_up_self _ _ _) ?_
  refine rj_bipush (pc := 110) dX10_init_110 (by decide +kernel) ?_
  refine r_putf (pc := 112) dX10_init_112 fX10_55 ((s_3s (a + 194) (by omega)).trans F_3i.gx) (by omega) rfl rfl (Nat.le_of_ble_eq_true rfl) ?_
  refine rg_gen (fun h_3z o_3z s_3z l_3z n_3z k_3z => ?_)
  dsimp only [List.set] at o_3z
  have n_3z := n_3z.trans n_3s
  refine rj_iinc (pc := 115) dX10_init_115 (Nat.le_of_ble_eq_true rfl) rfl ?_
  dsimp only [lsSt, List.set, mLs, mEnt]
  refine r_goto (pc := 118) (tgt := 80) dX10_init_118 (by decide) ?_
  refine r_iload_n (pc := 80) dX10_init_80 rfl ?_
  refine r_aload_n (pc := 81) dX10_init_81 rfl rfl ?_
  refine r_getf (pc := 82) dX10_init_82 fX10_36 ((s_3z (a) (by omega)).trans ((s_3s (a) (by omega)).trans ((s_3i (a) (by omega)).trans ((s_3n (a) (by omega)).trans ((s_2z (a) (by omega)).trans ((s_2s (a) (by omega)).trans ((s_2i (a) (by omega)).trans ((s_2n (a) (by omega)).trans ((s_1z (a) (by omega)).trans ((s_1s (a) (by omega)).trans ((s_1i (a) (by omega)).trans ((s_1n (a) (by omega)).trans ((s_0z (a) (by omega)).trans ((s_0s (a) (by omega)).trans ((s_0i (a) (by omega)).trans ((s_0n (a) (by omega)).trans o_75)))))))))))))))) rfl ?_
  refine rj_alenR (pc := 85) dX10_init_85 ((s_3z (a + 7) (by omega)).trans o_3s) ?_
  refine rj_icmp_ge (pc := 86) (tgt := 121) dX10_init_86 (by decide) (by decide) (by decide) (fun c_86 => ?_) (fun c_86 => absurd c_86 (by decide))
  refine r_return (pc := 121) dX10_init_121 rfl ?_
  have hD := F_9.keep2 (h' := h_3z) (by omega) (fun b hb => by unfold dBlk at hb; exact ((s_3z b (by omega)).trans ((s_3s b (by omega)).trans ((s_3i b (by omega)).trans ((s_3n b (by omega)).trans ((s_2z b (by omega)).trans ((s_2s b (by omega)).trans ((s_2i b (by omega)).trans ((s_2n b (by omega)).trans ((s_1z b (by omega)).trans ((s_1s b (by omega)).trans ((s_1i b (by omega)).trans ((s_1n b (by omega)).trans ((s_0z b (by omega)).trans ((s_0s b (by omega)).trans ((s_0i b (by omega)).trans ((s_0n b (by omega)).trans ((s_75 b (by omega)).trans ((s_64 b (by omega)).trans ((s_61 b (by omega)).trans ((s_57 b (by omega)).trans ((s_53 b (by omega)).trans ((s_50 b (by omega)).trans ((s_45 b (by omega)).trans ((s_34 b (by omega)).trans ((s_31 b (by omega)).trans ((s_27 b (by omega)).trans ((s_23 b (by omega)).trans ((s_12 b (by omega)).trans rfl)))))))))))))))))))))))))))))
  have hS := F_31.keep2 (h' := h_3z) (by omega) (fun b hb => by unfold dBlk at hb; exact ((s_3z b (by omega)).trans ((s_3s b (by omega)).trans ((s_3i b (by omega)).trans ((s_3n b (by omega)).trans ((s_2z b (by omega)).trans ((s_2s b (by omega)).trans ((s_2i b (by omega)).trans ((s_2n b (by omega)).trans ((s_1z b (by omega)).trans ((s_1s b (by omega)).trans ((s_1i b (by omega)).trans ((s_1n b (by omega)).trans ((s_0z b (by omega)).trans ((s_0s b (by omega)).trans ((s_0i b (by omega)).trans ((s_0n b (by omega)).trans ((s_75 b (by omega)).trans ((s_64 b (by omega)).trans ((s_61 b (by omega)).trans ((s_57 b (by omega)).trans ((s_53 b (by omega)).trans ((s_50 b (by omega)).trans ((s_45 b (by omega)).trans ((s_34 b (by omega)).trans rfl)))))))))))))))))))))))))
  have hR := F_61.keep2 (h' := h_3z) (by omega) (fun b hb => by unfold rBlk at hb; exact ((s_3z b (by omega)).trans ((s_3s b (by omega)).trans ((s_3i b (by omega)).trans ((s_3n b (by omega)).trans ((s_2z b (by omega)).trans ((s_2s b (by omega)).trans ((s_2i b (by omega)).trans ((s_2n b (by omega)).trans ((s_1z b (by omega)).trans ((s_1s b (by omega)).trans ((s_1i b (by omega)).trans ((s_1n b (by omega)).trans ((s_0z b (by omega)).trans ((s_0s b (by omega)).trans ((s_0i b (by omega)).trans ((s_0n b (by omega)).trans ((s_75 b (by omega)).trans ((s_64 b (by omega)).trans rfl)))))))))))))))))))
  have hx9 := ((s_3z (a) (by omega)).trans ((s_3s (a) (by omega)).trans ((s_3i (a) (by omega)).trans ((s_3n (a) (by omega)).trans ((s_2z (a) (by omega)).trans ((s_2s (a) (by omega)).trans ((s_2i (a) (by omega)).trans ((s_2n (a) (by omega)).trans ((s_1z (a) (by omega)).trans ((s_1s (a) (by omega)).trans ((s_1i (a) (by omega)).trans ((s_1n (a) (by omega)).trans ((s_0z (a) (by omega)).trans ((s_0s (a) (by omega)).trans ((s_0i (a) (by omega)).trans ((s_0n (a) (by omega)).trans o_75))))))))))))))))
  have hr9 := ((s_3z (a + 7) (by omega)).trans o_3s)
  have er : ∀ f : Nat → Option Nat, f = rowR a → True := fun _ _ => trivial
  rw [show (va_up va_up va_up va_up (fun _ => none : Nat → Option Nat) ((0 : Int)).toNat (some (a + 188)) ((1 : Int)).toNat (some (a + 190)) ((2 : Int)).toNat (some (a + 192)) ((3 : Int)).toNat (some (a + 194))) = rowR a by funext q; unfold va_up rowR kR; repeat' split; all_goals first | rfl | (exfalso; omega) | (congr 1; omega)] at hr9
  refine ⟨rfl, ⟨by omega, hx9, hD, hS, hr9, hR, four ⟨by show _ ≤ a + 188 + 2 * 0; omega, ((s_3z (a + 188) (by omega)).trans ((s_3s (a + 188) (by omega)).trans ((s_3i (a + 188) (by omega)).trans ((s_3n (a + 188) (by omega)).trans ((s_2z (a + 188) (by omega)).trans ((s_2s (a + 188) (by omega)).trans ((s_2i (a + 188) (by omega)).trans ((s_2n (a + 188) (by omega)).trans ((s_1z (a + 188) (by omega)).trans ((s_1s (a + 188) (by omega)).trans ((s_1i (a + 188) (by omega)).trans ((s_1n (a + 188) (by omega)).trans o_0z)))))))))))), ((s_3z (a + 188 + 1) (by omega)).trans ((s_3s (a + 188 + 1) (by omega)).trans ((s_3i (a + 188 + 1) (by omega)).trans ((s_3n (a + 188 + 1) (by omega)).trans ((s_2z (a + 188 + 1) (by omega)).trans ((s_2s (a + 188 + 1) (by omega)).trans ((s_2i (a + 188 + 1) (by omega)).trans ((s_2n (a + 188 + 1) (by omega)).trans ((s_1z (a + 188 + 1) (by omega)).trans ((s_1s (a + 188 + 1) (by omega)).trans ((s_1i (a + 188 + 1) (by omega)).trans ((s_1n (a + 188 + 1) (by omega)).trans ((s_0z (a + 188 + 1) (by omega)).trans ((s_0s (a + 188 + 1) (by omega)).trans F_0i.gc))))))))))))))⟩ ⟨by show _ ≤ a + 188 + 2 * 1; omega, ((s_3z (a + 190) (by omega)).trans ((s_3s (a + 190) (by omega)).trans ((s_3i (a + 190) (by omega)).trans ((s_3n (a + 190) (by omega)).trans ((s_2z (a + 190) (by omega)).trans ((s_2s (a + 190) (by omega)).trans ((s_2i (a + 190) (by omega)).trans ((s_2n (a + 190) (by omega)).trans o_1z)))))))), ((s_3z (a + 190 + 1) (by omega)).trans ((s_3s (a + 190 + 1) (by omega)).trans ((s_3i (a + 190 + 1) (by omega)).trans ((s_3n (a + 190 + 1) (by omega)).trans ((s_2z (a + 190 + 1) (by omega)).trans ((s_2s (a + 190 + 1) (by omega)).trans ((s_2i (a + 190 + 1) (by omega)).trans ((s_2n (a + 190 + 1) (by omega)).trans ((s_1z (a + 190 + 1) (by omega)).trans ((s_1s (a + 190 + 1) (by omega)).trans F_1i.gc))))))))))⟩ ⟨by show _ ≤ a + 188 + 2 * 2; omega, ((s_3z (a + 192) (by omega)).trans ((s_3s (a + 192) (by omega)).trans ((s_3i (a + 192) (by omega)).trans ((s_3n (a + 192) (by omega)).trans o_2z)))), ((s_3z (a + 192 + 1) (by omega)).trans ((s_3s (a + 192 + 1) (by omega)).trans ((s_3i (a + 192 + 1) (by omega)).trans ((s_3n (a + 192 + 1) (by omega)).trans ((s_2z (a + 192 + 1) (by omega)).trans ((s_2s (a + 192 + 1) (by omega)).trans F_2i.gc))))))⟩ ⟨by show _ ≤ a + 188 + 2 * 3; omega, o_3z, ((s_3z (a + 194 + 1) (by omega)).trans ((s_3s (a + 194 + 1) (by omega)).trans F_3i.gc))⟩⟩, fun b hb => ((s_3z b (by omega)).trans ((s_3s b (by omega)).trans ((s_3i b (by omega)).trans ((s_3n b (by omega)).trans ((s_2z b (by omega)).trans ((s_2s b (by omega)).trans ((s_2i b (by omega)).trans ((s_2n b (by omega)).trans ((s_1z b (by omega)).trans ((s_1s b (by omega)).trans ((s_1i b (by omega)).trans ((s_1n b (by omega)).trans ((s_0z b (by omega)).trans ((s_0s b (by omega)).trans ((s_0i b (by omega)).trans ((s_0n b (by omega)).trans ((s_75 b (by omega)).trans ((s_64 b (by omega)).trans ((s_61 b (by omega)).trans ((s_57 b (by omega)).trans ((s_53 b (by omega)).trans ((s_50 b (by omega)).trans ((s_45 b (by omega)).trans ((s_34 b (by omega)).trans ((s_31 b (by omega)).trans ((s_27 b (by omega)).trans ((s_23 b (by omega)).trans ((s_12 b (by omega)).trans ((s_9 b (by omega)).trans ((s_5 b (by omega)).trans rfl)))))))))))))))))))))))))))))), by omega, by omega, by omega⟩

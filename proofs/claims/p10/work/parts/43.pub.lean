/-! ===== contracts of the reference: isFine, row, pooled ===== -/
theorem J_and (p q : Bool) : J (bz p) &&& J (bz q) = J (bz (p && q)) := by
  rw [J_def, J_def, J_def]
  cases p <;> cases q <;> decide
theorem rj_iandB {G : mG} {l : Launch} {d : Nat} {M : mM} {pc : Nat} {ls : List (Option Value)} {st : List Value} {h : mH} {Q : Option Value → mH → Prop} {p q : Bool} (hdg : decode M.2.1 pc = .ok (.iand, 1)) (K : RUN G l d M (pc + 1) ls (.int (J (bz (p && q))) :: st) h Q) : RUN G l d M pc ls (.int (J (bz q)) :: .int (J (bz p)) :: st) h Q := r_iand hdg (by rw [J_and]; exact K)
theorem b01_z {p : Prop} [Decidable p] : b01 p = bz (decide p) := bz_d.symm
def fineL (m : Nat → Int) (t : Int) : Nat → Nat → Bool → Bool
  | 0, _, b => b
  | n + 1, k, b => fineL m t n (k + 1) (b && decide (openP m (m (1620 + 72 * t + k).toNat)))
def fineV (m : Nat → Int) (t : Int) : Bool := fineL m t (m (1619 + 72 * t).toNat).toNat 0 (decide (m (1614 + 72 * t).toNat = 0))
set_option maxHeartbeats 4000000 in
set_option maxRecDepth 100000 in
theorem L_isFine {G : mG} {l : Launch} (d : Nat) {h : mH} {x s : Nat} {f4 f6 f8 f9 f10 f11 f12 f13 f14 f16 f18 : Int} {m kp was pool tape pln pap rwd rw : Nat → Int}(hB : isM h x (mFs x f4 f6 f8 f9 f10 f11 f12 f13 f14 f16 f18 s) m kp was pool tape pln pap rwd rw) (hM : ∀ q, InR (m q)) (h0 : 0 ≤ m 0 ∧ m 0 ≤ 60) {t : Int} (h1 : 0 ≤ t) (h2 : t ≤ 9) (hd : 0 ≤ m (1619 + 72 * t).toNat ∧ m (1619 + 72 * t).toNat ≤ 60) : ∀ (n k : Nat) (b : Bool), (k : Int) + n = m (1619 + 72 * t).toNat → RUN G l (d + 3) mX11_isFine 23 [some (.ref x), some (.int (J t)), some (.int (J (bz b))), some (.int (J (k : Int)))] [] h (fun v h' => v = some (.int (J (bz (fineL m t n k b)))) ∧ h' = h) := by
  have hB0 := hB
  dsimp only [mFs] at hB
  intro n
  induction n with
  | zero =>
    intro k b hk
    refine r_iload_n (pc := 23) dX11_isFine_23 rfl ?_
    refine r_aload_n (pc := 24) dX11_isFine_24 rfl (by first | rfl | exact isRefV_rf _) ?_
    refine rm_getf (pc := 25) dX11_isFine_25 fX11_11 (by assumption) rfl ?_
    refine r_iload_n (pc := 28) dX11_isFine_28 rfl ?_
    refine rj_bipush (pc := 29) dX11_isFine_29 (by decide +kernel) ?_
    refine rj_iconst (pc := 31) dX11_isFine_31 ?_
    refine r_callS3 (pc := 32) dX11_isFine_32 qX11_ofTask kX11_58 sX11_ofTask (Nat.le_of_ble_eq_true rfl) (m_ofTask (d + 2)) (fun v_32 h_32 q_32 => ?_)
    obtain ⟨rfl, rfl⟩ := q_32
    refine rj_iald (pc := 35) (j := (1619 + 72 * t).toNat) dX11_isFine_35 (by first | exact isM.g0 (by assumption) | exact isM.g3 (by assumption) | exact isM.g4 (by assumption) | exact isM.g8 (by assumption) | exact isM.g7 (by assumption) | exact isM.g6 (by assumption) | exact isM.g5 (by assumption) | exact isM.g1 (by assumption) | exact isM.g2 (by assumption)) (by first | assumption | exact b01_r | exact bz_r | omega | (constructor <;> omega) | exact hM _ | exact hPo _ | exact hTa _ | exact hRo _) (by first | assumption | exact b01_r | exact bz_r | omega | (constructor <;> omega) | exact hM _ | exact hPo _ | exact hTa _ | exact hRo _) (by first | assumption | exact b01_r | exact bz_r | omega | (constructor <;> omega) | exact hM _ | exact hPo _ | exact hTa _ | exact hRo _) (by omega) ?_
    refine rj_icmp_ge (pc := 36) (tgt := 64) dX11_isFine_36 (by decide) (by first | assumption | exact b01_r | exact bz_r | omega | (constructor <;> omega) | exact hM _ | exact hPo _ | exact hTa _ | exact hRo _) (by first | assumption | exact b01_r | exact bz_r | omega | (constructor <;> omega) | exact hM _ | exact hPo _ | exact hTa _ | exact hRo _) (fun c_36 => ?_) (fun c_36 => ?_)
    · refine r_iload_n (pc := 64) dX11_isFine_64 rfl ?_
      refine r_ireturn (pc := 65) .boolean dX11_isFine_65 rfl (by first | exact nar_J0 | exact nar_J1 | exact nar_b01 | exact nar_bz) ?_
      exact ⟨rfl, rfl⟩
    · exfalso; omega
  | succ n ih =>
    intro k b hk
    refine r_iload_n (pc := 23) dX11_isFine_23 rfl ?_
    refine r_aload_n (pc := 24) dX11_isFine_24 rfl (by first | rfl | exact isRefV_rf _) ?_
    refine rm_getf (pc := 25) dX11_isFine_25 fX11_11 (by assumption) rfl ?_
    refine r_iload_n (pc := 28) dX11_isFine_28 rfl ?_
    refine rj_bipush (pc := 29) dX11_isFine_29 (by decide +kernel) ?_
    refine rj_iconst (pc := 31) dX11_isFine_31 ?_
    refine r_callS3 (pc := 32) dX11_isFine_32 qX11_ofTask kX11_58 sX11_ofTask (Nat.le_of_ble_eq_true rfl) (m_ofTask (d + 2)) (fun v_32 h_32 q_32 => ?_)
    obtain ⟨rfl, rfl⟩ := q_32
    refine rj_iald (pc := 35) (j := (1619 + 72 * t).toNat) dX11_isFine_35 (by first | exact isM.g0 (by assumption) | exact isM.g3 (by assumption) | exact isM.g4 (by assumption) | exact isM.g8 (by assumption) | exact isM.g7 (by assumption) | exact isM.g6 (by assumption) | exact isM.g5 (by assumption) | exact isM.g1 (by assumption) | exact isM.g2 (by assumption)) (by first | assumption | exact b01_r | exact bz_r | omega | (constructor <;> omega) | exact hM _ | exact hPo _ | exact hTa _ | exact hRo _) (by first | assumption | exact b01_r | exact bz_r | omega | (constructor <;> omega) | exact hM _ | exact hPo _ | exact hTa _ | exact hRo _) (by first | assumption | exact b01_r | exact bz_r | omega | (constructor <;> omega) | exact hM _ | exact hPo _ | exact hTa _ | exact hRo _) (by omega) ?_
    refine rj_icmp_ge (pc := 36) (tgt := 64) dX11_isFine_36 (by decide) (by first | assumption | exact b01_r | exact bz_r | omega | (constructor <;> omega) | exact hM _ | exact hPo _ | exact hTa _ | exact hRo _) (by first | assumption | exact b01_r | exact bz_r | omega | (constructor <;> omega) | exact hM _ | exact hPo _ | exact hTa _ | exact hRo _) (fun c_36 => ?_) (fun c_36 => ?_)
    · refine r_iload_n (pc := 64) dX11_isFine_64 rfl ?_
      refine r_ireturn (pc := 65) .boolean dX11_isFine_65 rfl (by first | exact nar_J0 | exact nar_J1 | exact nar_b01 | exact nar_bz) ?_
      exfalso; omega
    · refine r_iload_n (pc := 39) dX11_isFine_39 rfl ?_
      refine r_aload_n (pc := 40) dX11_isFine_40 rfl (by first | rfl | exact isRefV_rf _) ?_
      refine r_aload_n (pc := 41) dX11_isFine_41 rfl (by first | rfl | exact isRefV_rf _) ?_
      refine rm_getf (pc := 42) dX11_isFine_42 fX11_11 (by assumption) rfl ?_
      refine r_iload_n (pc := 45) dX11_isFine_45 rfl ?_
      refine rj_bipush (pc := 46) dX11_isFine_46 (by decide +kernel) ?_
      refine r_iload_n (pc := 48) dX11_isFine_48 rfl ?_
      refine r_callS3 (pc := 49) dX11_isFine_49 qX11_ofTask kX11_58 sX11_ofTask (Nat.le_of_ble_eq_true rfl) (m_ofTask (d + 2)) (fun v_49 h_49 q_49 => ?_)
      obtain ⟨rfl, rfl⟩ := q_49
      refine rj_iald (pc := 52) (j := (1620 + 72 * t + (k : Int)).toNat) dX11_isFine_52 (by first | exact isM.g0 (by assumption) | exact isM.g3 (by assumption) | exact isM.g4 (by assumption) | exact isM.g8 (by assumption) | exact isM.g7 (by assumption) | exact isM.g6 (by assumption) | exact isM.g5 (by assumption) | exact isM.g1 (by assumption) | exact isM.g2 (by assumption)) (by first | assumption | exact b01_r | exact bz_r | omega | (constructor <;> omega) | exact hM _ | exact hPo _ | exact hTa _ | exact hRo _) (by first | assumption | exact b01_r | exact bz_r | omega | (constructor <;> omega) | exact hM _ | exact hPo _ | exact hTa _ | exact hRo _) (by first | assumption | exact b01_r | exact bz_r | omega | (constructor <;> omega) | exact hM _ | exact hPo _ | exact hTa _ | exact hRo _) (by omega) ?_
      refine r_callV1 (pc := 53) dX11_isFine_53 qX11_isOpen kX11_146 vX11_isOpen (by exact isM.gx (by assumption)) rfl rfl (Nat.le_of_ble_eq_true rfl) (m_isOpen d hB0 hM h0 (hM _)) (fun v_53 h_53 q_53 => ?_)
      obtain ⟨rfl, rfl⟩ := q_53
      rw [b01_z]
      refine rj_iandB (pc := 56) dX11_isFine_56 ?_
      refine r_istore_n (pc := 57) dX11_isFine_57 (Nat.le_of_ble_eq_true rfl) ?_
      dsimp only [lsSt, List.set, mLs, mEnt]
      refine rj_iinc (pc := 58) dX11_isFine_58 (Nat.le_of_ble_eq_true rfl) rfl ?_
      dsimp only [lsSt, List.set, mLs, mEnt]
      refine r_goto (pc := 61) (tgt := 23) dX11_isFine_61 (by decide) ?_
      exact ih (k + 1) _ (by omega)
set_option maxHeartbeats 4000000 in
set_option maxRecDepth 100000 in
theorem m_isFine {G : mG} {l : Launch} (d : Nat) {h : mH} {x s : Nat} {f4 f6 f8 f9 f10 f11 f12 f13 f14 f16 f18 : Int} {m kp was pool tape pln pap rwd rw : Nat → Int}(hB : isM h x (mFs x f4 f6 f8 f9 f10 f11 f12 f13 f14 f16 f18 s) m kp was pool tape pln pap rwd rw) (hM : ∀ q, InR (m q)) (h0 : 0 ≤ m 0 ∧ m 0 ≤ 60) {t : Int} (h1 : 0 ≤ t) (h2 : t ≤ 9) (hd : 0 ≤ m (1619 + 72 * t).toNat ∧ m (1619 + 72 * t).toNat ≤ 60) : RUNM G l (d + 3) mX11_isFine [.ref x, .int (J t)] h (fun v h' => v = some (.int (J (bz (fineV m t)))) ∧ h' = h) := by
  have hB0 := hB
  dsimp only [mFs] at hB
  refine RUNM.of (by decide +kernel) (Nat.le_of_ble_eq_true rfl) ?_
  refine r_aload_n (pc := 0) dX11_isFine_0 rfl (by first | rfl | exact isRefV_rf _) ?_
  refine rm_getf (pc := 1) dX11_isFine_1 fX11_11 (by assumption) rfl ?_
  refine r_iload_n (pc := 4) dX11_isFine_4 rfl ?_
  refine rj_bipush (pc := 5) dX11_isFine_5 (by decide +kernel) ?_
  refine rj_iconst (pc := 7) dX11_isFine_7 ?_
  refine r_callS3 (pc := 8) dX11_isFine_8 qX11_ofTask kX11_58 sX11_ofTask (Nat.le_of_ble_eq_true rfl) (m_ofTask (d + 2)) (fun v_8 h_8 q_8 => ?_)
  obtain ⟨rfl, rfl⟩ := q_8
  refine rj_iald (pc := 11) (j := (1614 + 72 * t).toNat) dX11_isFine_11 (by first | exact isM.g0 (by assumption) | exact isM.g3 (by assumption) | exact isM.g4 (by assumption) | exact isM.g8 (by assumption) | exact isM.g7 (by assumption) | exact isM.g6 (by assumption) | exact isM.g5 (by assumption) | exact isM.g1 (by assumption) | exact isM.g2 (by assumption)) (by first | assumption | exact b01_r | exact bz_r | omega | (constructor <;> omega) | exact hM _ | exact hPo _ | exact hTa _ | exact hRo _) (by first | assumption | exact b01_r | exact bz_r | omega | (constructor <;> omega) | exact hM _ | exact hPo _ | exact hTa _ | exact hRo _) (by first | assumption | exact b01_r | exact bz_r | omega | (constructor <;> omega) | exact hM _ | exact hPo _ | exact hTa _ | exact hRo _) (by omega) ?_
  refine rj_if_ne (pc := 12) (tgt := 19) dX11_isFine_12 (by decide) (by first | assumption | exact b01_r | exact bz_r | omega | (constructor <;> omega) | exact hM _ | exact hPo _ | exact hTa _ | exact hRo _) (fun c_12 => ?_) (fun c_12 => ?_)
  · try simp only [b01_0, bz_0, Classical.not_not] at c_12
    refine rj_iconst (pc := 19) dX11_isFine_19 ?_
    refine r_istore_n (pc := 20) dX11_isFine_20 (Nat.le_of_ble_eq_true rfl) ?_
    dsimp only [lsSt, List.set, mLs, mEnt]
    refine rj_iconst (pc := 21) dX11_isFine_21 ?_
    refine r_istore_n (pc := 22) dX11_isFine_22 (Nat.le_of_ble_eq_true rfl) ?_
    dsimp only [lsSt, List.set, mLs, mEnt]
    have z := L_isFine (G := G) (l := l) d hB0 hM h0 h1 h2 hd (m (1619 + 72 * t).toNat).toNat 0 false (by omega)
    rw [show fineV m t = fineL m t (m (1619 + 72 * t).toNat).toNat 0 false by unfold fineV; rw [decide_eq_false c_12]]
    rw [show bz false = 0 from rfl] at z
    exact z
  · try simp only [b01_0, bz_0, Classical.not_not] at c_12
    refine rj_iconst (pc := 15) dX11_isFine_15 ?_
    refine r_goto (pc := 16) (tgt := 20) dX11_isFine_16 (by decide) ?_
    refine r_istore_n (pc := 20) dX11_isFine_20 (Nat.le_of_ble_eq_true rfl) ?_
    dsimp only [lsSt, List.set, mLs, mEnt]
    refine rj_iconst (pc := 21) dX11_isFine_21 ?_
    refine r_istore_n (pc := 22) dX11_isFine_22 (Nat.le_of_ble_eq_true rfl) ?_
    dsimp only [lsSt, List.set, mLs, mEnt]
    have z := L_isFine (G := G) (l := l) d hB0 hM h0 h1 h2 hd (m (1619 + 72 * t).toNat).toNat 0 true (by omega)
    rw [show fineV m t = fineL m t (m (1619 + 72 * t).toNat).toNat 0 true by unfold fineV; rw [decide_eq_true c_12]]
    rw [show bz true = 1 from rfl] at z
    exact z
def zrF (f : Nat → Int) (a k : Nat) : Nat → Int := fun q => if a ≤ q ∧ q < a + k then 0 else f q
theorem zrF_0 (f : Nat → Int) (a : Nat) : zrF f a 0 = f := by funext q; unfold zrF; rw [if_neg (by omega)]
theorem zrF_s (f : Nat → Int) (a k : Nat) : updI (zrF f a k) (a + k) 0 = zrF f a (k + 1) := by
  funext q
  unfold updI zrF
  by_cases h : q = a + k
  · rw [if_pos h, if_pos (by omega)]
  · rw [if_neg h]
    by_cases h2 : a ≤ q ∧ q < a + k
    · rw [if_pos h2, if_pos (by omega)]
    · rw [if_neg h2, if_neg (by omega)]
def rowV (a n : Int) : Int := if 0 ≤ a ∧ a ≤ 3 then (if n ≤ 40 then (if 0 ≤ n then 1 else -14) else -2) else -1
def rowDo (a n : Int) : Prop := (0 ≤ a ∧ a ≤ 3) ∧ 0 ≤ n ∧ n ≤ 40
set_option maxHeartbeats 4000000 in
set_option maxRecDepth 100000 in
theorem L_row {G : mG} {l : Launch} (d : Nat) {x s : Nat} {f4 f6 f8 f9 f10 f11 f12 f13 f14 f16 f18 : Int} {m kp was pool tape pln pap rwd rw : Nat → Int} {a n : Int} (h0 : 0 ≤ a ∧ a ≤ 3) : ∀ (j k : Nat) (h : mH), isM h x (mFs x f4 f6 f8 f9 f10 f11 f12 f13 f14 f16 f18 s) m kp was pool tape pln pap rwd (zrF rw (40 * a.toNat) k) → k + j = 40 → RUN G l d mX11_row 34 [some (.ref x), some (.int (J a)), some (.int (J n)), some (.int (J (k : Int)))] [] h (fun v h' => v = some (.int (J 1)) ∧ isM h' x (mFs x f4 f6 f8 f9 f10 f11 f12 f13 f14 f16 f18 s) m kp was pool tape pln pap rwd (zrF rw (40 * a.toNat) 40) ∧ Same (mBlk x) h h') := by
  intro j
  induction j with
  | zero =>
    intro k h hB hk
    dsimp only [mFs] at hB
    refine r_iload_n (pc := 34) dX11_row_34 rfl ?_
    refine rj_bipush (pc := 35) dX11_row_35 (by decide +kernel) ?_
    refine rj_icmp_ge (pc := 37) (tgt := 58) dX11_row_37 (by decide) (by first | assumption | exact b01_r | exact bz_r | omega | (constructor <;> omega) | exact hM _ | exact hPo _ | exact hTa _ | exact hRo _) (by first | assumption | exact b01_r | exact bz_r | omega | (constructor <;> omega) | exact hM _ | exact hPo _ | exact hTa _ | exact hRo _) (fun c_37 => ?_) (fun c_37 => ?_)
    · refine rj_iconst (pc := 58) dX11_row_58 ?_
      refine r_ireturn (pc := 59) .int dX11_row_59 rfl (by first | rfl | assumption) ?_
      have e : k = 40 := by omega
      subst e
      exact ⟨rfl, hB, Same.refl⟩
    · exfalso; omega
  | succ j ih =>
    intro k h hB hk
    dsimp only [mFs] at hB
    refine r_iload_n (pc := 34) dX11_row_34 rfl ?_
    refine rj_bipush (pc := 35) dX11_row_35 (by decide +kernel) ?_
    refine rj_icmp_ge (pc := 37) (tgt := 58) dX11_row_37 (by decide) (by first | assumption | exact b01_r | exact bz_r | omega | (constructor <;> omega) | exact hM _ | exact hPo _ | exact hTa _ | exact hRo _) (by first | assumption | exact b01_r | exact bz_r | omega | (constructor <;> omega) | exact hM _ | exact hPo _ | exact hTa _ | exact hRo _) (fun c_37 => ?_) (fun c_37 => ?_)
    · refine rj_iconst (pc := 58) dX11_row_58 ?_
      refine r_ireturn (pc := 59) .int dX11_row_59 rfl (by first | rfl | assumption) ?_
      exfalso; omega
    · refine r_aload_n (pc := 40) dX11_row_40 rfl (by first | rfl | exact isRefV_rf _) ?_
      refine rm_getf (pc := 41) dX11_row_41 fX11_39 (by assumption) rfl ?_
      refine rj_bipush (pc := 44) dX11_row_44 (by decide +kernel) ?_
      refine r_iload_n (pc := 46) dX11_row_46 rfl ?_
      refine rj_imul (pc := 47) dX11_row_47 ?_
      refine r_iload_n (pc := 48) dX11_row_48 rfl ?_
      refine rj_iadd (pc := 49) dX11_row_49 ?_
      refine rj_iconst (pc := 50) dX11_row_50 ?_
      first | refine rm_iast8 (pc := 51) (j := 40 * a.toNat + k) dX11_row_51 (by assumption) (by first | assumption | exact b01_r | exact bz_r | omega | (constructor <;> omega) | exact hM _ | exact hPo _ | exact hTa _ | exact hRo _) (by first | assumption | exact b01_r | exact bz_r | omega | (constructor <;> omega) | exact hM _ | exact hPo _ | exact hTa _ | exact hRo _) (by first | assumption | exact b01_r | exact bz_r | omega | (constructor <;> omega) | exact hM _ | exact hPo _ | exact hTa _ | exact hRo _) (by omega) (fun h_51 hB_51 hS_51 => ?_)
      rw [zrF_s] at hB_51
      refine rj_iinc (pc := 52) dX11_row_52 (Nat.le_of_ble_eq_true rfl) rfl ?_
      dsimp only [lsSt, List.set, mLs, mEnt]
      refine r_goto (pc := 55) (tgt := 34) dX11_row_55 (by decide) ?_
      have z := ih (k + 1) h_51 hB_51 (by omega)
      exact z.mono (fun v h' g => ⟨g.1, g.2.1, hS_51.trans g.2.2⟩)
set_option maxHeartbeats 4000000 in
set_option maxRecDepth 100000 in
theorem m_row {G : mG} {l : Launch} (d : Nat) {h : mH} {x s : Nat} {f4 f6 f8 f9 f10 f11 f12 f13 f14 f16 f18 : Int} {m kp was pool tape pln pap rwd rw : Nat → Int}(hB : isM h x (mFs x f4 f6 f8 f9 f10 f11 f12 f13 f14 f16 f18 s) m kp was pool tape pln pap rwd rw) {a n : Int} (ha : InR a) (hn : InR n) : RUNM G l (d + 2) mX11_row [.ref x, .int (J a), .int (J n)] h (fun v h' => v = some (.int (J (rowV a n))) ∧ ((¬ rowDo a n ∧ h' = h) ∨ (rowDo a n ∧ isM h' x (mFs x f4 f6 f8 f9 f10 f11 f12 f13 f14 f16 f18 s) m kp was pool tape pln pap (updI rwd a.toNat n) (zrF rw (40 * a.toNat) 40) ∧ Same (mBlk x) h h'))) := by
  dsimp only [mFs] at hB
  refine RUNM.of (by decide +kernel) (Nat.le_of_ble_eq_true rfl) ?_
  refine r_iload_n (pc := 0) dX11_row_0 rfl ?_
  refine r_callS1 (pc := 1) dX11_row_1 qX11_isRow kX11_304 sX11_isRow (Nat.le_of_ble_eq_true rfl) (m_isRow d ha) (fun v_1 h_1 q_1 => ?_)
  obtain ⟨rfl, rfl⟩ := q_1
  refine rj_if_ne (pc := 4) (tgt := 9) dX11_row_4 (by decide) (by first | assumption | exact b01_r | exact bz_r | omega | (constructor <;> omega) | exact hM _ | exact hPo _ | exact hTa _ | exact hRo _) (fun c_4 => ?_) (fun c_4 => ?_)
  · try simp only [b01_0, bz_0, Classical.not_not] at c_4
    refine r_iload_n (pc := 9) dX11_row_9 rfl ?_
    refine rj_bipush (pc := 10) dX11_row_10 (by decide +kernel) ?_
    refine rj_icmp_le (pc := 12) (tgt := 18) dX11_row_12 (by decide) (by first | assumption | exact b01_r | exact bz_r | omega | (constructor <;> omega) | exact hM _ | exact hPo _ | exact hTa _ | exact hRo _) (by first | assumption | exact b01_r | exact bz_r | omega | (constructor <;> omega) | exact hM _ | exact hPo _ | exact hTa _ | exact hRo _) (fun c_12 => ?_) (fun c_12 => ?_)
    · refine r_iload_n (pc := 18) dX11_row_18 rfl ?_
      refine rj_if_ge (pc := 19) (tgt := 25) dX11_row_19 (by decide) (by first | assumption | exact b01_r | exact bz_r | omega | (constructor <;> omega) | exact hM _ | exact hPo _ | exact hTa _ | exact hRo _) (fun c_19 => ?_) (fun c_19 => ?_)
      · refine r_aload_n (pc := 25) dX11_row_25 rfl (by first | rfl | exact isRefV_rf _) ?_
        refine rm_getf (pc := 26) dX11_row_26 fX11_36 (by assumption) rfl ?_
        refine r_iload_n (pc := 29) dX11_row_29 rfl ?_
        refine r_iload_n (pc := 30) dX11_row_30 rfl ?_
        first | refine rm_iast7 (pc := 31) (j := a.toNat) dX11_row_31 (by assumption) (by first | assumption | exact b01_r | exact bz_r | omega | (constructor <;> omega) | exact hM _ | exact hPo _ | exact hTa _ | exact hRo _) (by first | assumption | exact b01_r | exact bz_r | omega | (constructor <;> omega) | exact hM _ | exact hPo _ | exact hTa _ | exact hRo _) (by first | assumption | exact b01_r | exact bz_r | omega | (constructor <;> omega) | exact hM _ | exact hPo _ | exact hTa _ | exact hRo _) (by omega) (fun h_31 hB_31 hS_31 => ?_)
        refine rj_iconst (pc := 32) dX11_row_32 ?_
        refine r_istore_n (pc := 33) dX11_row_33 (Nat.le_of_ble_eq_true rfl) ?_
        dsimp only [lsSt, List.set, mLs, mEnt]
        have z := L_row (G := G) (l := l) (rw := rw) (d + 2) (n := n) c_4 40 0 h_31 (by rw [zrF_0]; exact hB_31) rfl
        exact z.mono (fun v h' g => ⟨by rw [g.1]; unfold rowV; rw [if_pos c_4, if_pos (by omega), if_pos (by omega)], Or.inr ⟨⟨c_4, by omega, by omega⟩, g.2.1, hS_31.trans g.2.2⟩⟩)
      · refine rj_bipush (pc := 22) dX11_row_22 (by decide +kernel) ?_
        refine r_ireturn (pc := 24) .int dX11_row_24 rfl (by first | rfl | assumption) ?_
        first
        | exact ⟨by unfold rowV; rw [if_neg c_4], Or.inl ⟨fun g => c_4 g.1, rfl⟩⟩
        | exact ⟨by unfold rowV; rw [if_pos c_4, if_neg (by omega)], Or.inl ⟨fun g => by have := g.2; omega, rfl⟩⟩
        | exact ⟨by unfold rowV; rw [if_pos c_4, if_pos (by omega), if_neg (by omega)], Or.inl ⟨fun g => by have := g.2; omega, rfl⟩⟩
    · refine rj_bipush (pc := 15) dX11_row_15 (by decide +kernel) ?_
      refine r_ireturn (pc := 17) .int dX11_row_17 rfl (by first | rfl | assumption) ?_
      first
      | exact ⟨by unfold rowV; rw [if_neg c_4], Or.inl ⟨fun g => c_4 g.1, rfl⟩⟩
      | exact ⟨by unfold rowV; rw [if_pos c_4, if_neg (by omega)], Or.inl ⟨fun g => by have := g.2; omega, rfl⟩⟩
      | exact ⟨by unfold rowV; rw [if_pos c_4, if_pos (by omega), if_neg (by omega)], Or.inl ⟨fun g => by have := g.2; omega, rfl⟩⟩
  · try simp only [b01_0, bz_0, Classical.not_not] at c_4
    refine rj_iconst (pc := 7) dX11_row_7 ?_
    refine r_ireturn (pc := 8) .int dX11_row_8 rfl (by first | rfl | assumption) ?_
    first
    | exact ⟨by unfold rowV; rw [if_neg c_4], Or.inl ⟨fun g => c_4 g.1, rfl⟩⟩
    | exact ⟨by unfold rowV; rw [if_pos c_4, if_neg (by omega)], Or.inl ⟨fun g => by have := g.2; omega, rfl⟩⟩
    | exact ⟨by unfold rowV; rw [if_pos c_4, if_pos (by omega), if_neg (by omega)], Or.inl ⟨fun g => by have := g.2; omega, rfl⟩⟩

/-! ===== contracts of the reference: counting loops ===== -/
def cnt (p : Nat → Bool) : Nat → Int
  | 0 => 0
  | n + 1 => cnt p n + (if p n then 1 else 0)
theorem cnt_t {p : Nat → Bool} {n : Nat} (h : p n = true) : cnt p n + 1 = cnt p (n + 1) := by simp [cnt, h]
theorem cnt_f {p : Nat → Bool} {n : Nat} (h : p n = false) : cnt p n + 0 = cnt p (n + 1) := by simp [cnt, h]
theorem cnt_r (p : Nat → Bool) (n : Nat) : 0 ≤ cnt p n ∧ cnt p n ≤ n := by
  induction n with
  | zero => exact ⟨Int.le_refl _, Int.le_refl _⟩
  | succ n ih =>
    simp only [cnt]
    split <;> omega
def heldB (m : Nat → Int) (q : Nat) : Bool := decide (m (258 + 14 * q) = 0)
def openB (m : Nat → Int) (q : Nat) : Bool := decide (m (18 + 4 * q) = 0)
def readyB (m : Nat → Int) (q : Nat) : Bool := decide (m (1610 + 72 * q) = 0)
theorem n_held (t : Nat) : (258 + 14 * (t : Int)).toNat = 258 + 14 * t := by omega
theorem n_open (t : Nat) : (18 + 4 * (t : Int)).toNat = 18 + 4 * t := by omega
theorem n_ready (t : Nat) : (1610 + 72 * (t : Int)).toNat = 1610 + 72 * t := by omega
set_option maxHeartbeats 4000000 in
set_option maxRecDepth 100000 in
theorem L_held {G : mG} {l : Launch} (d : Nat) {h : mH} {x s : Nat} {f4 f6 f8 f9 f10 f11 f12 f13 f14 f16 f18 : Int} {m kp was pool tape pln pap rwd rw : Nat → Int}(hB : isM h x (mFs x f4 f6 f8 f9 f10 f11 f12 f13 f14 f16 f18 s) m kp was pool tape pln pap rwd rw) (hM : ∀ q, InR (m q)) {N : Nat} (hN : m 1 = (N : Int)) (hcap : N ≤ 90)  : ∀ k t : Nat, t + k = N → RUN G l (d + 2) mX11_held 4 [some (.ref x), some (.int (J (cnt (heldB m) t))), some (.int (J ((t : Int))))] [] h (fun v h' => v = some (.int (J (cnt (heldB m) N))) ∧ h' = h) := by
  dsimp only [mFs] at hB
  have rN := hM 1
  intro k
  induction k with
  | zero =>
    intro t ht
    refine r_iload_n (pc := 4) dX11_held_4 rfl ?_
    refine r_aload_n (pc := 5) dX11_held_5 rfl (by first | rfl | exact isRefV_rf _) ?_
    refine rm_getf (pc := 6) dX11_held_6 fX11_11 (by assumption) rfl ?_
    refine rj_iconst (pc := 9) dX11_held_9 ?_
    refine rj_iald (pc := 10) (j := 1) dX11_held_10 (by first | exact isM.g0 (by assumption) | exact isM.g3 (by assumption) | exact isM.g4 (by assumption) | exact isM.g8 (by assumption) | exact isM.g7 (by assumption) | exact isM.g6 (by assumption) | exact isM.g5 (by assumption) | exact isM.g1 (by assumption) | exact isM.g2 (by assumption)) (by first | assumption | exact b01_r | exact bz_r | omega | (constructor <;> omega) | exact hM _ | exact hPo _ | exact hTa _ | exact hRo _) (by first | assumption | exact b01_r | exact bz_r | omega | (constructor <;> omega) | exact hM _ | exact hPo _ | exact hTa _ | exact hRo _) (by first | assumption | exact b01_r | exact bz_r | omega | (constructor <;> omega) | exact hM _ | exact hPo _ | exact hTa _ | exact hRo _) rfl ?_
    refine rj_icmp_ge (pc := 11) (tgt := 36) dX11_held_11 (by decide) (by first | assumption | exact b01_r | exact bz_r | omega | (constructor <;> omega) | exact hM _ | exact hPo _ | exact hTa _ | exact hRo _) (by first | assumption | exact b01_r | exact bz_r | omega | (constructor <;> omega) | exact hM _ | exact hPo _ | exact hTa _ | exact hRo _) (fun c_11 => ?_) (fun c_11 => ?_)
    · refine r_iload_n (pc := 36) dX11_held_36 rfl ?_
      refine r_ireturn (pc := 37) .int dX11_held_37 rfl (by first | rfl | assumption) ?_
      have e : t = N := by omega
      subst e
      exact ⟨rfl, rfl⟩
    · refine r_iload_n (pc := 14) dX11_held_14 rfl ?_
      refine r_aload_n (pc := 15) dX11_held_15 rfl (by first | rfl | exact isRefV_rf _) ?_
      refine r_iload_n (pc := 16) dX11_held_16 rfl ?_
      refine r_callV1 (pc := 17) dX11_held_17 qX11_isHeld kX11_119 vX11_isHeld (by exact isM.gx (by assumption)) rfl rfl (Nat.le_of_ble_eq_true rfl) (m_isHeld d hB hM (by omega) (by omega)) (fun v_17 h_17 q_17 => ?_)
      obtain ⟨rfl, rfl⟩ := q_17
      refine rj_if_eq (pc := 20) (tgt := 27) dX11_held_20 (by decide) (by first | assumption | exact b01_r | exact bz_r | omega | (constructor <;> omega) | exact hM _ | exact hPo _ | exact hTa _ | exact hRo _) (fun c_20 => ?_) (fun c_20 => ?_)
      · try simp only [b01_0, bz_0, Classical.not_not] at c_20
        refine rj_iconst (pc := 27) dX11_held_27 ?_
        refine rj_iadd (pc := 28) dX11_held_28 ?_
        refine r_istore_n (pc := 29) dX11_held_29 (Nat.le_of_ble_eq_true rfl) ?_
        dsimp only [lsSt, List.set, mLs, mEnt]
        refine rj_iinc (pc := 30) dX11_held_30 (Nat.le_of_ble_eq_true rfl) rfl ?_
        dsimp only [lsSt, List.set, mLs, mEnt]
        refine r_goto (pc := 33) (tgt := 4) dX11_held_33 (by decide) ?_
        exfalso; omega
      · try simp only [b01_0, bz_0, Classical.not_not] at c_20
        refine rj_iconst (pc := 23) dX11_held_23 ?_
        refine r_goto (pc := 24) (tgt := 28) dX11_held_24 (by decide) ?_
        refine rj_iadd (pc := 28) dX11_held_28 ?_
        refine r_istore_n (pc := 29) dX11_held_29 (Nat.le_of_ble_eq_true rfl) ?_
        dsimp only [lsSt, List.set, mLs, mEnt]
        refine rj_iinc (pc := 30) dX11_held_30 (Nat.le_of_ble_eq_true rfl) rfl ?_
        dsimp only [lsSt, List.set, mLs, mEnt]
        refine r_goto (pc := 33) (tgt := 4) dX11_held_33 (by decide) ?_
        exfalso; omega
  | succ k ih =>
    intro t ht
    refine r_iload_n (pc := 4) dX11_held_4 rfl ?_
    refine r_aload_n (pc := 5) dX11_held_5 rfl (by first | rfl | exact isRefV_rf _) ?_
    refine rm_getf (pc := 6) dX11_held_6 fX11_11 (by assumption) rfl ?_
    refine rj_iconst (pc := 9) dX11_held_9 ?_
    refine rj_iald (pc := 10) (j := 1) dX11_held_10 (by first | exact isM.g0 (by assumption) | exact isM.g3 (by assumption) | exact isM.g4 (by assumption) | exact isM.g8 (by assumption) | exact isM.g7 (by assumption) | exact isM.g6 (by assumption) | exact isM.g5 (by assumption) | exact isM.g1 (by assumption) | exact isM.g2 (by assumption)) (by first | assumption | exact b01_r | exact bz_r | omega | (constructor <;> omega) | exact hM _ | exact hPo _ | exact hTa _ | exact hRo _) (by first | assumption | exact b01_r | exact bz_r | omega | (constructor <;> omega) | exact hM _ | exact hPo _ | exact hTa _ | exact hRo _) (by first | assumption | exact b01_r | exact bz_r | omega | (constructor <;> omega) | exact hM _ | exact hPo _ | exact hTa _ | exact hRo _) rfl ?_
    refine rj_icmp_ge (pc := 11) (tgt := 36) dX11_held_11 (by decide) (by first | assumption | exact b01_r | exact bz_r | omega | (constructor <;> omega) | exact hM _ | exact hPo _ | exact hTa _ | exact hRo _) (by first | assumption | exact b01_r | exact bz_r | omega | (constructor <;> omega) | exact hM _ | exact hPo _ | exact hTa _ | exact hRo _) (fun c_11 => ?_) (fun c_11 => ?_)
    · refine r_iload_n (pc := 36) dX11_held_36 rfl ?_
      refine r_ireturn (pc := 37) .int dX11_held_37 rfl (by first | rfl | assumption) ?_
      exfalso; omega
    · refine r_iload_n (pc := 14) dX11_held_14 rfl ?_
      refine r_aload_n (pc := 15) dX11_held_15 rfl (by first | rfl | exact isRefV_rf _) ?_
      refine r_iload_n (pc := 16) dX11_held_16 rfl ?_
      refine r_callV1 (pc := 17) dX11_held_17 qX11_isHeld kX11_119 vX11_isHeld (by exact isM.gx (by assumption)) rfl rfl (Nat.le_of_ble_eq_true rfl) (m_isHeld d hB hM (by omega) (by omega)) (fun v_17 h_17 q_17 => ?_)
      obtain ⟨rfl, rfl⟩ := q_17
      refine rj_if_eq (pc := 20) (tgt := 27) dX11_held_20 (by decide) (by first | assumption | exact b01_r | exact bz_r | omega | (constructor <;> omega) | exact hM _ | exact hPo _ | exact hTa _ | exact hRo _) (fun c_20 => ?_) (fun c_20 => ?_)
      · try simp only [b01_0, bz_0, Classical.not_not] at c_20
        refine rj_iconst (pc := 27) dX11_held_27 ?_
        refine rj_iadd (pc := 28) dX11_held_28 ?_
        refine r_istore_n (pc := 29) dX11_held_29 (Nat.le_of_ble_eq_true rfl) ?_
        dsimp only [lsSt, List.set, mLs, mEnt]
        refine rj_iinc (pc := 30) dX11_held_30 (Nat.le_of_ble_eq_true rfl) rfl ?_
        dsimp only [lsSt, List.set, mLs, mEnt]
        refine r_goto (pc := 33) (tgt := 4) dX11_held_33 (by decide) ?_
        have z := ih (t + 1) (by omega)
        rw [← cnt_f (by simp only [heldB, ← n_held, c_20, decide_true, decide_false])] at z
        exact z
      · try simp only [b01_0, bz_0, Classical.not_not] at c_20
        refine rj_iconst (pc := 23) dX11_held_23 ?_
        refine r_goto (pc := 24) (tgt := 28) dX11_held_24 (by decide) ?_
        refine rj_iadd (pc := 28) dX11_held_28 ?_
        refine r_istore_n (pc := 29) dX11_held_29 (Nat.le_of_ble_eq_true rfl) ?_
        dsimp only [lsSt, List.set, mLs, mEnt]
        refine rj_iinc (pc := 30) dX11_held_30 (Nat.le_of_ble_eq_true rfl) rfl ?_
        dsimp only [lsSt, List.set, mLs, mEnt]
        refine r_goto (pc := 33) (tgt := 4) dX11_held_33 (by decide) ?_
        have z := ih (t + 1) (by omega)
        rw [← cnt_t (by simp only [heldB, ← n_held, c_20, decide_true, decide_false])] at z
        exact z
set_option maxHeartbeats 4000000 in
set_option maxRecDepth 100000 in
theorem m_held {G : mG} {l : Launch} (d : Nat) {h : mH} {x s : Nat} {f4 f6 f8 f9 f10 f11 f12 f13 f14 f16 f18 : Int} {m kp was pool tape pln pap rwd rw : Nat → Int}(hB : isM h x (mFs x f4 f6 f8 f9 f10 f11 f12 f13 f14 f16 f18 s) m kp was pool tape pln pap rwd rw) (hM : ∀ q, InR (m q)) {N : Nat} (hN : m 1 = (N : Int)) (hcap : N ≤ 90)  : RUNM G l (d + 2) mX11_held [.ref x] h (fun v h' => v = some (.int (J (cnt (heldB m) N))) ∧ h' = h) := by
  refine RUNM.of (by decide +kernel) (Nat.le_of_ble_eq_true rfl) ?_
  refine rj_iconst (pc := 0) dX11_held_0 ?_
  refine r_istore_n (pc := 1) dX11_held_1 (Nat.le_of_ble_eq_true rfl) ?_
  dsimp only [lsSt, List.set, mLs, mEnt]
  refine rj_iconst (pc := 2) dX11_held_2 ?_
  refine r_istore_n (pc := 3) dX11_held_3 (Nat.le_of_ble_eq_true rfl) ?_
  dsimp only [lsSt, List.set, mLs, mEnt]
  exact L_held d hB hM hN hcap  N 0 (by omega)
set_option maxHeartbeats 4000000 in
set_option maxRecDepth 100000 in
theorem L_readyOnes {G : mG} {l : Launch} (d : Nat) {h : mH} {x s : Nat} {f4 f6 f8 f9 f10 f11 f12 f13 f14 f16 f18 : Int} {m kp was pool tape pln pap rwd rw : Nat → Int}(hB : isM h x (mFs x f4 f6 f8 f9 f10 f11 f12 f13 f14 f16 f18 s) m kp was pool tape pln pap rwd rw) (hM : ∀ q, InR (m q)) {N : Nat} (hN : m 3 = (N : Int)) (hcap : N ≤ 10)  : ∀ k t : Nat, t + k = N → RUN G l (d + 2) mX11_readyOnes 4 [some (.ref x), some (.int (J (cnt (readyB m) t))), some (.int (J ((t : Int))))] [] h (fun v h' => v = some (.int (J (cnt (readyB m) N))) ∧ h' = h) := by
  dsimp only [mFs] at hB
  have rN := hM 3
  intro k
  induction k with
  | zero =>
    intro t ht
    refine r_iload_n (pc := 4) dX11_readyOnes_4 rfl ?_
    refine r_aload_n (pc := 5) dX11_readyOnes_5 rfl (by first | rfl | exact isRefV_rf _) ?_
    refine rm_getf (pc := 6) dX11_readyOnes_6 fX11_11 (by assumption) rfl ?_
    refine rj_iconst (pc := 9) dX11_readyOnes_9 ?_
    refine rj_iald (pc := 10) (j := 3) dX11_readyOnes_10 (by first | exact isM.g0 (by assumption) | exact isM.g3 (by assumption) | exact isM.g4 (by assumption) | exact isM.g8 (by assumption) | exact isM.g7 (by assumption) | exact isM.g6 (by assumption) | exact isM.g5 (by assumption) | exact isM.g1 (by assumption) | exact isM.g2 (by assumption)) (by first | assumption | exact b01_r | exact bz_r | omega | (constructor <;> omega) | exact hM _ | exact hPo _ | exact hTa _ | exact hRo _) (by first | assumption | exact b01_r | exact bz_r | omega | (constructor <;> omega) | exact hM _ | exact hPo _ | exact hTa _ | exact hRo _) (by first | assumption | exact b01_r | exact bz_r | omega | (constructor <;> omega) | exact hM _ | exact hPo _ | exact hTa _ | exact hRo _) rfl ?_
    refine rj_icmp_ge (pc := 11) (tgt := 36) dX11_readyOnes_11 (by decide) (by first | assumption | exact b01_r | exact bz_r | omega | (constructor <;> omega) | exact hM _ | exact hPo _ | exact hTa _ | exact hRo _) (by first | assumption | exact b01_r | exact bz_r | omega | (constructor <;> omega) | exact hM _ | exact hPo _ | exact hTa _ | exact hRo _) (fun c_11 => ?_) (fun c_11 => ?_)
    · refine r_iload_n (pc := 36) dX11_readyOnes_36 rfl ?_
      refine r_ireturn (pc := 37) .int dX11_readyOnes_37 rfl (by first | rfl | assumption) ?_
      have e : t = N := by omega
      subst e
      exact ⟨rfl, rfl⟩
    · refine r_iload_n (pc := 14) dX11_readyOnes_14 rfl ?_
      refine r_aload_n (pc := 15) dX11_readyOnes_15 rfl (by first | rfl | exact isRefV_rf _) ?_
      refine r_iload_n (pc := 16) dX11_readyOnes_16 rfl ?_
      refine r_callV1 (pc := 17) dX11_readyOnes_17 qX11_isReady kX11_183 vX11_isReady (by exact isM.gx (by assumption)) rfl rfl (Nat.le_of_ble_eq_true rfl) (m_isReady d hB hM (by omega) (by omega)) (fun v_17 h_17 q_17 => ?_)
      obtain ⟨rfl, rfl⟩ := q_17
      refine rj_if_eq (pc := 20) (tgt := 27) dX11_readyOnes_20 (by decide) (by first | assumption | exact b01_r | exact bz_r | omega | (constructor <;> omega) | exact hM _ | exact hPo _ | exact hTa _ | exact hRo _) (fun c_20 => ?_) (fun c_20 => ?_)
      · try simp only [b01_0, bz_0, Classical.not_not] at c_20
        refine rj_iconst (pc := 27) dX11_readyOnes_27 ?_
        refine rj_iadd (pc := 28) dX11_readyOnes_28 ?_
        refine r_istore_n (pc := 29) dX11_readyOnes_29 (Nat.le_of_ble_eq_true rfl) ?_
        dsimp only [lsSt, List.set, mLs, mEnt]
        refine rj_iinc (pc := 30) dX11_readyOnes_30 (Nat.le_of_ble_eq_true rfl) rfl ?_
        dsimp only [lsSt, List.set, mLs, mEnt]
        refine r_goto (pc := 33) (tgt := 4) dX11_readyOnes_33 (by decide) ?_
        exfalso; omega
      · try simp only [b01_0, bz_0, Classical.not_not] at c_20
        refine rj_iconst (pc := 23) dX11_readyOnes_23 ?_
        refine r_goto (pc := 24) (tgt := 28) dX11_readyOnes_24 (by decide) ?_
        refine rj_iadd (pc := 28) dX11_readyOnes_28 ?_
        refine r_istore_n (pc := 29) dX11_readyOnes_29 (Nat.le_of_ble_eq_true rfl) ?_
        dsimp only [lsSt, List.set, mLs, mEnt]
        refine rj_iinc (pc := 30) dX11_readyOnes_30 (Nat.le_of_ble_eq_true rfl) rfl ?_
        dsimp only [lsSt, List.set, mLs, mEnt]
        refine r_goto (pc := 33) (tgt := 4) dX11_readyOnes_33 (by decide) ?_
        exfalso; omega
  | succ k ih =>
    intro t ht
    refine r_iload_n (pc := 4) dX11_readyOnes_4 rfl ?_
    refine r_aload_n (pc := 5) dX11_readyOnes_5 rfl (by first | rfl | exact isRefV_rf _) ?_
    refine rm_getf (pc := 6) dX11_readyOnes_6 fX11_11 (by assumption) rfl ?_
    refine rj_iconst (pc := 9) dX11_readyOnes_9 ?_
    refine rj_iald (pc := 10) (j := 3) dX11_readyOnes_10 (by first | exact isM.g0 (by assumption) | exact isM.g3 (by assumption) | exact isM.g4 (by assumption) | exact isM.g8 (by assumption) | exact isM.g7 (by assumption) | exact isM.g6 (by assumption) | exact isM.g5 (by assumption) | exact isM.g1 (by assumption) | exact isM.g2 (by assumption)) (by first | assumption | exact b01_r | exact bz_r | omega | (constructor <;> omega) | exact hM _ | exact hPo _ | exact hTa _ | exact hRo _) (by first | assumption | exact b01_r | exact bz_r | omega | (constructor <;> omega) | exact hM _ | exact hPo _ | exact hTa _ | exact hRo _) (by first | assumption | exact b01_r | exact bz_r | omega | (constructor <;> omega) | exact hM _ | exact hPo _ | exact hTa _ | exact hRo _) rfl ?_
    refine rj_icmp_ge (pc := 11) (tgt := 36) dX11_readyOnes_11 (by decide) (by first | assumption | exact b01_r | exact bz_r | omega | (constructor <;> omega) | exact hM _ | exact hPo _ | exact hTa _ | exact hRo _) (by first | assumption | exact b01_r | exact bz_r | omega | (constructor <;> omega) | exact hM _ | exact hPo _ | exact hTa _ | exact hRo _) (fun c_11 => ?_) (fun c_11 => ?_)
    · refine r_iload_n (pc := 36) dX11_readyOnes_36 rfl ?_
      refine r_ireturn (pc := 37) .int dX11_readyOnes_37 rfl (by first | rfl | assumption) ?_
      exfalso; omega
    · refine r_iload_n (pc := 14) dX11_readyOnes_14 rfl ?_
      refine r_aload_n (pc := 15) dX11_readyOnes_15 rfl (by first | rfl | exact isRefV_rf _) ?_
      refine r_iload_n (pc := 16) dX11_readyOnes_16 rfl ?_
      refine r_callV1 (pc := 17) dX11_readyOnes_17 qX11_isReady kX11_183 vX11_isReady (by exact isM.gx (by assumption)) rfl rfl (Nat.le_of_ble_eq_true rfl) (m_isReady d hB hM (by omega) (by omega)) (fun v_17 h_17 q_17 => ?_)
      obtain ⟨rfl, rfl⟩ := q_17
      refine rj_if_eq (pc := 20) (tgt := 27) dX11_readyOnes_20 (by decide) (by first | assumption | exact b01_r | exact bz_r | omega | (constructor <;> omega) | exact hM _ | exact hPo _ | exact hTa _ | exact hRo _) (fun c_20 => ?_) (fun c_20 => ?_)
      · try simp only [b01_0, bz_0, Classical.not_not] at c_20
        refine rj_iconst (pc := 27) dX11_readyOnes_27 ?_
        refine rj_iadd (pc := 28) dX11_readyOnes_28 ?_
        refine r_istore_n (pc := 29) dX11_readyOnes_29 (Nat.le_of_ble_eq_true rfl) ?_
        dsimp only [lsSt, List.set, mLs, mEnt]
        refine rj_iinc (pc := 30) dX11_readyOnes_30 (Nat.le_of_ble_eq_true rfl) rfl ?_
        dsimp only [lsSt, List.set, mLs, mEnt]
        refine r_goto (pc := 33) (tgt := 4) dX11_readyOnes_33 (by decide) ?_
        have z := ih (t + 1) (by omega)
        rw [← cnt_f (by simp only [readyB, ← n_ready, c_20, decide_true, decide_false])] at z
        exact z
      · try simp only [b01_0, bz_0, Classical.not_not] at c_20
        refine rj_iconst (pc := 23) dX11_readyOnes_23 ?_
        refine r_goto (pc := 24) (tgt := 28) dX11_readyOnes_24 (by decide) ?_
        refine rj_iadd (pc := 28) dX11_readyOnes_28 ?_
        refine r_istore_n (pc := 29) dX11_readyOnes_29 (Nat.le_of_ble_eq_true rfl) ?_
        dsimp only [lsSt, List.set, mLs, mEnt]
        refine rj_iinc (pc := 30) dX11_readyOnes_30 (Nat.le_of_ble_eq_true rfl) rfl ?_
        dsimp only [lsSt, List.set, mLs, mEnt]
        refine r_goto (pc := 33) (tgt := 4) dX11_readyOnes_33 (by decide) ?_
        have z := ih (t + 1) (by omega)
        rw [← cnt_t (by simp only [readyB, ← n_ready, c_20, decide_true, decide_false])] at z
        exact z
set_option maxHeartbeats 4000000 in
set_option maxRecDepth 100000 in
theorem m_readyOnes {G : mG} {l : Launch} (d : Nat) {h : mH} {x s : Nat} {f4 f6 f8 f9 f10 f11 f12 f13 f14 f16 f18 : Int} {m kp was pool tape pln pap rwd rw : Nat → Int}(hB : isM h x (mFs x f4 f6 f8 f9 f10 f11 f12 f13 f14 f16 f18 s) m kp was pool tape pln pap rwd rw) (hM : ∀ q, InR (m q)) {N : Nat} (hN : m 3 = (N : Int)) (hcap : N ≤ 10)  : RUNM G l (d + 2) mX11_readyOnes [.ref x] h (fun v h' => v = some (.int (J (cnt (readyB m) N))) ∧ h' = h) := by
  refine RUNM.of (by decide +kernel) (Nat.le_of_ble_eq_true rfl) ?_
  refine rj_iconst (pc := 0) dX11_readyOnes_0 ?_
  refine r_istore_n (pc := 1) dX11_readyOnes_1 (Nat.le_of_ble_eq_true rfl) ?_
  dsimp only [lsSt, List.set, mLs, mEnt]
  refine rj_iconst (pc := 2) dX11_readyOnes_2 ?_
  refine r_istore_n (pc := 3) dX11_readyOnes_3 (Nat.le_of_ble_eq_true rfl) ?_
  dsimp only [lsSt, List.set, mLs, mEnt]
  exact L_readyOnes d hB hM hN hcap  N 0 (by omega)
def shutB (m : Nat → Int) (a : Int) (q : Nat) : Bool := decide (m (21 + 4 * q) = a ∧ ¬ m (18 + 4 * q) = 2)
def faultB (m : Nat → Int) (a : Int) (q : Nat) : Bool := decide (m (2328 + 3 * q) = a)
def entTB (m : Nat → Int) (a : Int) (q : Nat) : Bool := decide (m (258 + 14 * q) = 0 ∧ m (259 + 14 * q) = a)
def entSB (m : Nat → Int) (a : Int) (q : Nat) : Bool := decide (¬ m (18 + 4 * q) = 2 ∧ m (19 + 4 * q) = a)
theorem n_x3 (t : Nat) (c : Int) (h : 0 ≤ c) : (18 + 4 * (t : Int) + c).toNat = 18 + 4 * t + c.toNat := by omega
theorem n_sc3 (t : Nat) : (18 + 4 * (t : Int) + 3).toNat = 21 + 4 * t := by omega
theorem n_sc0 (t : Nat) : (18 + 4 * (t : Int) + 0).toNat = 18 + 4 * t := by omega
theorem n_sc1 (t : Nat) : (18 + 4 * (t : Int) + 1).toNat = 19 + 4 * t := by omega
theorem n_th1 (t : Nat) : (258 + 14 * (t : Int) + 1 + 0).toNat = 259 + 14 * t := by omega
theorem n_fa (t : Nat) : (2328 + 3 * (t : Int)).toNat = 2328 + 3 * t := by omega
set_option maxHeartbeats 4000000 in
set_option maxRecDepth 100000 in
theorem L_opened {G : mG} {l : Launch} (d : Nat) {h : mH} {x s : Nat} {f4 f6 f8 f9 f10 f11 f12 f13 f14 f16 f18 : Int} {m kp was pool tape pln pap rwd rw : Nat → Int}(hB : isM h x (mFs x f4 f6 f8 f9 f10 f11 f12 f13 f14 f16 f18 s) m kp was pool tape pln pap rwd rw) (hM : ∀ q, InR (m q)) {N : Nat} (hN : m 0 = (N : Int)) (hcap : N ≤ 60)  : ∀ k t : Nat, t + k = N → RUN G l (d + 3) mX11_opened 4 [some (.ref x), some (.int (J (cnt (openB m) t))), some (.int (J ((t : Int))))] [] h (fun v h' => v = some (.int (J (cnt (openB m) N))) ∧ h' = h) := by
  dsimp only [mFs] at hB
  have rN := hM 0
  intro k
  induction k with
  | zero =>
    intro t ht
    refine r_iload_n (pc := 4) dX11_opened_4 rfl ?_
    refine r_aload_n (pc := 5) dX11_opened_5 rfl (by first | rfl | exact isRefV_rf _) ?_
    refine rm_getf (pc := 6) dX11_opened_6 fX11_11 (by assumption) rfl ?_
    refine rj_iconst (pc := 9) dX11_opened_9 ?_
    refine rj_iald (pc := 10) (j := 0) dX11_opened_10 (by first | exact isM.g0 (by assumption) | exact isM.g3 (by assumption) | exact isM.g4 (by assumption) | exact isM.g8 (by assumption) | exact isM.g7 (by assumption) | exact isM.g6 (by assumption) | exact isM.g5 (by assumption) | exact isM.g1 (by assumption) | exact isM.g2 (by assumption)) (by first | assumption | exact b01_r | exact bz_r | omega | (constructor <;> omega) | exact hM _ | exact hPo _ | exact hTa _ | exact hRo _) (by first | assumption | exact b01_r | exact bz_r | omega | (constructor <;> omega) | exact hM _ | exact hPo _ | exact hTa _ | exact hRo _) (by first | assumption | exact b01_r | exact bz_r | omega | (constructor <;> omega) | exact hM _ | exact hPo _ | exact hTa _ | exact hRo _) rfl ?_
    refine rj_icmp_ge (pc := 11) (tgt := 36) dX11_opened_11 (by decide) (by first | assumption | exact b01_r | exact bz_r | omega | (constructor <;> omega) | exact hM _ | exact hPo _ | exact hTa _ | exact hRo _) (by first | assumption | exact b01_r | exact bz_r | omega | (constructor <;> omega) | exact hM _ | exact hPo _ | exact hTa _ | exact hRo _) (fun c_11 => ?_) (fun c_11 => ?_)
    · refine r_iload_n (pc := 36) dX11_opened_36 rfl ?_
      refine r_ireturn (pc := 37) .int dX11_opened_37 rfl (by first | rfl | assumption) ?_
      have e : t = N := by omega
      subst e
      exact ⟨rfl, rfl⟩
    · refine r_iload_n (pc := 14) dX11_opened_14 rfl ?_
      refine r_aload_n (pc := 15) dX11_opened_15 rfl (by first | rfl | exact isRefV_rf _) ?_
      refine r_iload_n (pc := 16) dX11_opened_16 rfl ?_
      refine r_callV1 (pc := 17) dX11_opened_17 qX11_isOpen kX11_146 vX11_isOpen (by exact isM.gx (by assumption)) rfl rfl (Nat.le_of_ble_eq_true rfl) (m_isOpen d hB hM ⟨by omega, by omega⟩ ⟨by omega, by omega⟩) (fun v_17 h_17 q_17 => ?_)
      obtain ⟨rfl, rfl⟩ := q_17
      refine rj_if_eq (pc := 20) (tgt := 27) dX11_opened_20 (by decide) (by first | assumption | exact b01_r | exact bz_r | omega | (constructor <;> omega) | exact hM _ | exact hPo _ | exact hTa _ | exact hRo _) (fun c_20 => ?_) (fun c_20 => ?_)
      · try simp only [b01_0, bz_0, Classical.not_not] at c_20
        refine rj_iconst (pc := 27) dX11_opened_27 ?_
        refine rj_iadd (pc := 28) dX11_opened_28 ?_
        refine r_istore_n (pc := 29) dX11_opened_29 (Nat.le_of_ble_eq_true rfl) ?_
        dsimp only [lsSt, List.set, mLs, mEnt]
        refine rj_iinc (pc := 30) dX11_opened_30 (Nat.le_of_ble_eq_true rfl) rfl ?_
        dsimp only [lsSt, List.set, mLs, mEnt]
        refine r_goto (pc := 33) (tgt := 4) dX11_opened_33 (by decide) ?_
        exfalso; omega
      · try simp only [b01_0, bz_0, Classical.not_not] at c_20
        refine rj_iconst (pc := 23) dX11_opened_23 ?_
        refine r_goto (pc := 24) (tgt := 28) dX11_opened_24 (by decide) ?_
        refine rj_iadd (pc := 28) dX11_opened_28 ?_
        refine r_istore_n (pc := 29) dX11_opened_29 (Nat.le_of_ble_eq_true rfl) ?_
        dsimp only [lsSt, List.set, mLs, mEnt]
        refine rj_iinc (pc := 30) dX11_opened_30 (Nat.le_of_ble_eq_true rfl) rfl ?_
        dsimp only [lsSt, List.set, mLs, mEnt]
        refine r_goto (pc := 33) (tgt := 4) dX11_opened_33 (by decide) ?_
        exfalso; omega
  | succ k ih =>
    intro t ht
    refine r_iload_n (pc := 4) dX11_opened_4 rfl ?_
    refine r_aload_n (pc := 5) dX11_opened_5 rfl (by first | rfl | exact isRefV_rf _) ?_
    refine rm_getf (pc := 6) dX11_opened_6 fX11_11 (by assumption) rfl ?_
    refine rj_iconst (pc := 9) dX11_opened_9 ?_
    refine rj_iald (pc := 10) (j := 0) dX11_opened_10 (by first | exact isM.g0 (by assumption) | exact isM.g3 (by assumption) | exact isM.g4 (by assumption) | exact isM.g8 (by assumption) | exact isM.g7 (by assumption) | exact isM.g6 (by assumption) | exact isM.g5 (by assumption) | exact isM.g1 (by assumption) | exact isM.g2 (by assumption)) (by first | assumption | exact b01_r | exact bz_r | omega | (constructor <;> omega) | exact hM _ | exact hPo _ | exact hTa _ | exact hRo _) (by first | assumption | exact b01_r | exact bz_r | omega | (constructor <;> omega) | exact hM _ | exact hPo _ | exact hTa _ | exact hRo _) (by first | assumption | exact b01_r | exact bz_r | omega | (constructor <;> omega) | exact hM _ | exact hPo _ | exact hTa _ | exact hRo _) rfl ?_
    refine rj_icmp_ge (pc := 11) (tgt := 36) dX11_opened_11 (by decide) (by first | assumption | exact b01_r | exact bz_r | omega | (constructor <;> omega) | exact hM _ | exact hPo _ | exact hTa _ | exact hRo _) (by first | assumption | exact b01_r | exact bz_r | omega | (constructor <;> omega) | exact hM _ | exact hPo _ | exact hTa _ | exact hRo _) (fun c_11 => ?_) (fun c_11 => ?_)
    · refine r_iload_n (pc := 36) dX11_opened_36 rfl ?_
      refine r_ireturn (pc := 37) .int dX11_opened_37 rfl (by first | rfl | assumption) ?_
      exfalso; omega
    · refine r_iload_n (pc := 14) dX11_opened_14 rfl ?_
      refine r_aload_n (pc := 15) dX11_opened_15 rfl (by first | rfl | exact isRefV_rf _) ?_
      refine r_iload_n (pc := 16) dX11_opened_16 rfl ?_
      refine r_callV1 (pc := 17) dX11_opened_17 qX11_isOpen kX11_146 vX11_isOpen (by exact isM.gx (by assumption)) rfl rfl (Nat.le_of_ble_eq_true rfl) (m_isOpen d hB hM ⟨by omega, by omega⟩ ⟨by omega, by omega⟩) (fun v_17 h_17 q_17 => ?_)
      obtain ⟨rfl, rfl⟩ := q_17
      refine rj_if_eq (pc := 20) (tgt := 27) dX11_opened_20 (by decide) (by first | assumption | exact b01_r | exact bz_r | omega | (constructor <;> omega) | exact hM _ | exact hPo _ | exact hTa _ | exact hRo _) (fun c_20 => ?_) (fun c_20 => ?_)
      · try simp only [b01_0, bz_0, Classical.not_not] at c_20
        refine rj_iconst (pc := 27) dX11_opened_27 ?_
        refine rj_iadd (pc := 28) dX11_opened_28 ?_
        refine r_istore_n (pc := 29) dX11_opened_29 (Nat.le_of_ble_eq_true rfl) ?_
        dsimp only [lsSt, List.set, mLs, mEnt]
        refine rj_iinc (pc := 30) dX11_opened_30 (Nat.le_of_ble_eq_true rfl) rfl ?_
        dsimp only [lsSt, List.set, mLs, mEnt]
        refine r_goto (pc := 33) (tgt := 4) dX11_opened_33 (by decide) ?_
        have z := ih (t + 1) (by omega)
        rw [← cnt_f (by first | exact decide_eq_true (by (try simp only [n_open, n_held, n_ready, n_sc0, n_sc1, n_sc3, n_th1, n_fa] at *); omega) | exact decide_eq_false (by (try simp only [n_open, n_held, n_ready, n_sc0, n_sc1, n_sc3, n_th1, n_fa] at *); omega))] at z
        exact z
      · try simp only [b01_0, bz_0, Classical.not_not] at c_20
        refine rj_iconst (pc := 23) dX11_opened_23 ?_
        refine r_goto (pc := 24) (tgt := 28) dX11_opened_24 (by decide) ?_
        refine rj_iadd (pc := 28) dX11_opened_28 ?_
        refine r_istore_n (pc := 29) dX11_opened_29 (Nat.le_of_ble_eq_true rfl) ?_
        dsimp only [lsSt, List.set, mLs, mEnt]
        refine rj_iinc (pc := 30) dX11_opened_30 (Nat.le_of_ble_eq_true rfl) rfl ?_
        dsimp only [lsSt, List.set, mLs, mEnt]
        refine r_goto (pc := 33) (tgt := 4) dX11_opened_33 (by decide) ?_
        have z := ih (t + 1) (by omega)
        rw [← cnt_t (by first | exact decide_eq_true (by (try simp only [n_open, n_held, n_ready, n_sc0, n_sc1, n_sc3, n_th1, n_fa] at *); omega) | exact decide_eq_false (by (try simp only [n_open, n_held, n_ready, n_sc0, n_sc1, n_sc3, n_th1, n_fa] at *); omega))] at z
        exact z
set_option maxHeartbeats 4000000 in
set_option maxRecDepth 100000 in
theorem m_opened {G : mG} {l : Launch} (d : Nat) {h : mH} {x s : Nat} {f4 f6 f8 f9 f10 f11 f12 f13 f14 f16 f18 : Int} {m kp was pool tape pln pap rwd rw : Nat → Int}(hB : isM h x (mFs x f4 f6 f8 f9 f10 f11 f12 f13 f14 f16 f18 s) m kp was pool tape pln pap rwd rw) (hM : ∀ q, InR (m q)) {N : Nat} (hN : m 0 = (N : Int)) (hcap : N ≤ 60)  : RUNM G l (d + 3) mX11_opened [.ref x] h (fun v h' => v = some (.int (J (cnt (openB m) N))) ∧ h' = h) := by
  refine RUNM.of (by decide +kernel) (Nat.le_of_ble_eq_true rfl) ?_
  refine rj_iconst (pc := 0) dX11_opened_0 ?_
  refine r_istore_n (pc := 1) dX11_opened_1 (Nat.le_of_ble_eq_true rfl) ?_
  dsimp only [lsSt, List.set, mLs, mEnt]
  refine rj_iconst (pc := 2) dX11_opened_2 ?_
  refine r_istore_n (pc := 3) dX11_opened_3 (Nat.le_of_ble_eq_true rfl) ?_
  dsimp only [lsSt, List.set, mLs, mEnt]
  exact L_opened d hB hM hN hcap  N 0 (by omega)
set_option maxHeartbeats 4000000 in
set_option maxRecDepth 100000 in
theorem L_notShut {G : mG} {l : Launch} (d : Nat) {h : mH} {x s : Nat} {f4 f6 f8 f9 f10 f11 f12 f13 f14 f16 f18 : Int} {m kp was pool tape pln pap rwd rw : Nat → Int}(hB : isM h x (mFs x f4 f6 f8 f9 f10 f11 f12 f13 f14 f16 f18 s) m kp was pool tape pln pap rwd rw) (hM : ∀ q, InR (m q)) {N : Nat} (hN : m 0 = (N : Int)) (hcap : N ≤ 60) {a : Int} (ha : InR a) : ∀ k t : Nat, t + k = N → RUN G l (d + 2) mX11_notShut 4 [some (.ref x), some (.int (J a)), some (.int (J (cnt (shutB m a) t))), some (.int (J ((t : Int))))] [] h (fun v h' => v = some (.int (J (cnt (shutB m a) N))) ∧ h' = h) := by
  dsimp only [mFs] at hB
  have rN := hM 0
  intro k
  induction k with
  | zero =>
    intro t ht
    refine r_iload_n (pc := 4) dX11_notShut_4 rfl ?_
    refine r_aload_n (pc := 5) dX11_notShut_5 rfl (by first | rfl | exact isRefV_rf _) ?_
    refine rm_getf (pc := 6) dX11_notShut_6 fX11_11 (by assumption) rfl ?_
    refine rj_iconst (pc := 9) dX11_notShut_9 ?_
    refine rj_iald (pc := 10) (j := 0) dX11_notShut_10 (by first | exact isM.g0 (by assumption) | exact isM.g3 (by assumption) | exact isM.g4 (by assumption) | exact isM.g8 (by assumption) | exact isM.g7 (by assumption) | exact isM.g6 (by assumption) | exact isM.g5 (by assumption) | exact isM.g1 (by assumption) | exact isM.g2 (by assumption)) (by first | assumption | exact b01_r | exact bz_r | omega | (constructor <;> omega) | exact hM _ | exact hPo _ | exact hTa _ | exact hRo _) (by first | assumption | exact b01_r | exact bz_r | omega | (constructor <;> omega) | exact hM _ | exact hPo _ | exact hTa _ | exact hRo _) (by first | assumption | exact b01_r | exact bz_r | omega | (constructor <;> omega) | exact hM _ | exact hPo _ | exact hTa _ | exact hRo _) rfl ?_
    refine rj_icmp_ge (pc := 11) (tgt := 56) dX11_notShut_11 (by decide) (by first | assumption | exact b01_r | exact bz_r | omega | (constructor <;> omega) | exact hM _ | exact hPo _ | exact hTa _ | exact hRo _) (by first | assumption | exact b01_r | exact bz_r | omega | (constructor <;> omega) | exact hM _ | exact hPo _ | exact hTa _ | exact hRo _) (fun c_11 => ?_) (fun c_11 => ?_)
    · refine r_iload_n (pc := 56) dX11_notShut_56 rfl ?_
      refine r_ireturn (pc := 57) .int dX11_notShut_57 rfl (by first | rfl | assumption) ?_
      have e : t = N := by omega
      subst e
      exact ⟨rfl, rfl⟩
    · refine r_iload_n (pc := 14) dX11_notShut_14 rfl ?_
      refine r_aload_n (pc := 15) dX11_notShut_15 rfl (by first | rfl | exact isRefV_rf _) ?_
      refine rm_getf (pc := 16) dX11_notShut_16 fX11_11 (by assumption) rfl ?_
      refine r_iload_n (pc := 19) dX11_notShut_19 rfl ?_
      refine rj_iconst (pc := 20) dX11_notShut_20 ?_
      refine r_callS2 (pc := 21) dX11_notShut_21 qX11_ofScope kX11_42 sX11_ofScope (Nat.le_of_ble_eq_true rfl) (m_ofScope (d + 1)) (fun v_21 h_21 q_21 => ?_)
      obtain ⟨rfl, rfl⟩ := q_21
      refine rj_iald (pc := 24) dX11_notShut_24 (by first | exact isM.g0 (by assumption) | exact isM.g3 (by assumption) | exact isM.g4 (by assumption) | exact isM.g8 (by assumption) | exact isM.g7 (by assumption) | exact isM.g6 (by assumption) | exact isM.g5 (by assumption) | exact isM.g1 (by assumption) | exact isM.g2 (by assumption)) (by first | assumption | exact b01_r | exact bz_r | omega | (constructor <;> omega) | exact hM _ | exact hPo _ | exact hTa _ | exact hRo _) (by first | assumption | exact b01_r | exact bz_r | omega | (constructor <;> omega) | exact hM _ | exact hPo _ | exact hTa _ | exact hRo _) (by first | assumption | exact b01_r | exact bz_r | omega | (constructor <;> omega) | exact hM _ | exact hPo _ | exact hTa _ | exact hRo _) rfl ?_
      refine r_iload_n (pc := 25) dX11_notShut_25 rfl ?_
      refine rj_icmp_ne (pc := 26) (tgt := 47) dX11_notShut_26 (by decide) (by first | assumption | exact b01_r | exact bz_r | omega | (constructor <;> omega) | exact hM _ | exact hPo _ | exact hTa _ | exact hRo _) (by first | assumption | exact b01_r | exact bz_r | omega | (constructor <;> omega) | exact hM _ | exact hPo _ | exact hTa _ | exact hRo _) (fun c_26 => ?_) (fun c_26 => ?_)
      · refine rj_iconst (pc := 47) dX11_notShut_47 ?_
        refine rj_iadd (pc := 48) dX11_notShut_48 ?_
        refine r_istore_n (pc := 49) dX11_notShut_49 (Nat.le_of_ble_eq_true rfl) ?_
        dsimp only [lsSt, List.set, mLs, mEnt]
        refine rj_iinc (pc := 50) dX11_notShut_50 (Nat.le_of_ble_eq_true rfl) rfl ?_
        dsimp only [lsSt, List.set, mLs, mEnt]
        refine r_goto (pc := 53) (tgt := 4) dX11_notShut_53 (by decide) ?_
        exfalso; omega
      · refine r_aload_n (pc := 29) dX11_notShut_29 rfl (by first | rfl | exact isRefV_rf _) ?_
        refine rm_getf (pc := 30) dX11_notShut_30 fX11_11 (by assumption) rfl ?_
        refine r_iload_n (pc := 33) dX11_notShut_33 rfl ?_
        refine rj_iconst (pc := 34) dX11_notShut_34 ?_
        refine r_callS2 (pc := 35) dX11_notShut_35 qX11_ofScope kX11_42 sX11_ofScope (Nat.le_of_ble_eq_true rfl) (m_ofScope (d + 1)) (fun v_35 h_35 q_35 => ?_)
        obtain ⟨rfl, rfl⟩ := q_35
        refine rj_iald (pc := 38) dX11_notShut_38 (by first | exact isM.g0 (by assumption) | exact isM.g3 (by assumption) | exact isM.g4 (by assumption) | exact isM.g8 (by assumption) | exact isM.g7 (by assumption) | exact isM.g6 (by assumption) | exact isM.g5 (by assumption) | exact isM.g1 (by assumption) | exact isM.g2 (by assumption)) (by first | assumption | exact b01_r | exact bz_r | omega | (constructor <;> omega) | exact hM _ | exact hPo _ | exact hTa _ | exact hRo _) (by first | assumption | exact b01_r | exact bz_r | omega | (constructor <;> omega) | exact hM _ | exact hPo _ | exact hTa _ | exact hRo _) (by first | assumption | exact b01_r | exact bz_r | omega | (constructor <;> omega) | exact hM _ | exact hPo _ | exact hTa _ | exact hRo _) rfl ?_
        refine rj_iconst (pc := 39) dX11_notShut_39 ?_
        refine rj_icmp_eq (pc := 40) (tgt := 47) dX11_notShut_40 (by decide) (by first | assumption | exact b01_r | exact bz_r | omega | (constructor <;> omega) | exact hM _ | exact hPo _ | exact hTa _ | exact hRo _) (by first | assumption | exact b01_r | exact bz_r | omega | (constructor <;> omega) | exact hM _ | exact hPo _ | exact hTa _ | exact hRo _) (fun c_40 => ?_) (fun c_40 => ?_)
        · refine rj_iconst (pc := 47) dX11_notShut_47 ?_
          refine rj_iadd (pc := 48) dX11_notShut_48 ?_
          refine r_istore_n (pc := 49) dX11_notShut_49 (Nat.le_of_ble_eq_true rfl) ?_
          dsimp only [lsSt, List.set, mLs, mEnt]
          refine rj_iinc (pc := 50) dX11_notShut_50 (Nat.le_of_ble_eq_true rfl) rfl ?_
          dsimp only [lsSt, List.set, mLs, mEnt]
          refine r_goto (pc := 53) (tgt := 4) dX11_notShut_53 (by decide) ?_
          exfalso; omega
        · refine rj_iconst (pc := 43) dX11_notShut_43 ?_
          refine r_goto (pc := 44) (tgt := 48) dX11_notShut_44 (by decide) ?_
          refine rj_iadd (pc := 48) dX11_notShut_48 ?_
          refine r_istore_n (pc := 49) dX11_notShut_49 (Nat.le_of_ble_eq_true rfl) ?_
          dsimp only [lsSt, List.set, mLs, mEnt]
          refine rj_iinc (pc := 50) dX11_notShut_50 (Nat.le_of_ble_eq_true rfl) rfl ?_
          dsimp only [lsSt, List.set, mLs, mEnt]
          refine r_goto (pc := 53) (tgt := 4) dX11_notShut_53 (by decide) ?_
          exfalso; omega
  | succ k ih =>
    intro t ht
    refine r_iload_n (pc := 4) dX11_notShut_4 rfl ?_
    refine r_aload_n (pc := 5) dX11_notShut_5 rfl (by first | rfl | exact isRefV_rf _) ?_
    refine rm_getf (pc := 6) dX11_notShut_6 fX11_11 (by assumption) rfl ?_
    refine rj_iconst (pc := 9) dX11_notShut_9 ?_
    refine rj_iald (pc := 10) (j := 0) dX11_notShut_10 (by first | exact isM.g0 (by assumption) | exact isM.g3 (by assumption) | exact isM.g4 (by assumption) | exact isM.g8 (by assumption) | exact isM.g7 (by assumption) | exact isM.g6 (by assumption) | exact isM.g5 (by assumption) | exact isM.g1 (by assumption) | exact isM.g2 (by assumption)) (by first | assumption | exact b01_r | exact bz_r | omega | (constructor <;> omega) | exact hM _ | exact hPo _ | exact hTa _ | exact hRo _) (by first | assumption | exact b01_r | exact bz_r | omega | (constructor <;> omega) | exact hM _ | exact hPo _ | exact hTa _ | exact hRo _) (by first | assumption | exact b01_r | exact bz_r | omega | (constructor <;> omega) | exact hM _ | exact hPo _ | exact hTa _ | exact hRo _) rfl ?_
    refine rj_icmp_ge (pc := 11) (tgt := 56) dX11_notShut_11 (by decide) (by first | assumption | exact b01_r | exact bz_r | omega | (constructor <;> omega) | exact hM _ | exact hPo _ | exact hTa _ | exact hRo _) (by first | assumption | exact b01_r | exact bz_r | omega | (constructor <;> omega) | exact hM _ | exact hPo _ | exact hTa _ | exact hRo _) (fun c_11 => ?_) (fun c_11 => ?_)
    · refine r_iload_n (pc := 56) dX11_notShut_56 rfl ?_
      refine r_ireturn (pc := 57) .int dX11_notShut_57 rfl (by first | rfl | assumption) ?_
      exfalso; omega
    · refine r_iload_n (pc := 14) dX11_notShut_14 rfl ?_
      refine r_aload_n (pc := 15) dX11_notShut_15 rfl (by first | rfl | exact isRefV_rf _) ?_
      refine rm_getf (pc := 16) dX11_notShut_16 fX11_11 (by assumption) rfl ?_
      refine r_iload_n (pc := 19) dX11_notShut_19 rfl ?_
      refine rj_iconst (pc := 20) dX11_notShut_20 ?_
      refine r_callS2 (pc := 21) dX11_notShut_21 qX11_ofScope kX11_42 sX11_ofScope (Nat.le_of_ble_eq_true rfl) (m_ofScope (d + 1)) (fun v_21 h_21 q_21 => ?_)
      obtain ⟨rfl, rfl⟩ := q_21
      refine rj_iald (pc := 24) dX11_notShut_24 (by first | exact isM.g0 (by assumption) | exact isM.g3 (by assumption) | exact isM.g4 (by assumption) | exact isM.g8 (by assumption) | exact isM.g7 (by assumption) | exact isM.g6 (by assumption) | exact isM.g5 (by assumption) | exact isM.g1 (by assumption) | exact isM.g2 (by assumption)) (by first | assumption | exact b01_r | exact bz_r | omega | (constructor <;> omega) | exact hM _ | exact hPo _ | exact hTa _ | exact hRo _) (by first | assumption | exact b01_r | exact bz_r | omega | (constructor <;> omega) | exact hM _ | exact hPo _ | exact hTa _ | exact hRo _) (by first | assumption | exact b01_r | exact bz_r | omega | (constructor <;> omega) | exact hM _ | exact hPo _ | exact hTa _ | exact hRo _) rfl ?_
      refine r_iload_n (pc := 25) dX11_notShut_25 rfl ?_
      refine rj_icmp_ne (pc := 26) (tgt := 47) dX11_notShut_26 (by decide) (by first | assumption | exact b01_r | exact bz_r | omega | (constructor <;> omega) | exact hM _ | exact hPo _ | exact hTa _ | exact hRo _) (by first | assumption | exact b01_r | exact bz_r | omega | (constructor <;> omega) | exact hM _ | exact hPo _ | exact hTa _ | exact hRo _) (fun c_26 => ?_) (fun c_26 => ?_)
      · refine rj_iconst (pc := 47) dX11_notShut_47 ?_
        refine rj_iadd (pc := 48) dX11_notShut_48 ?_
        refine r_istore_n (pc := 49) dX11_notShut_49 (Nat.le_of_ble_eq_true rfl) ?_
        dsimp only [lsSt, List.set, mLs, mEnt]
        refine rj_iinc (pc := 50) dX11_notShut_50 (Nat.le_of_ble_eq_true rfl) rfl ?_
        dsimp only [lsSt, List.set, mLs, mEnt]
        refine r_goto (pc := 53) (tgt := 4) dX11_notShut_53 (by decide) ?_
        have z := ih (t + 1) (by omega)
        rw [← cnt_f (by first | exact decide_eq_true (by (try simp only [n_open, n_held, n_ready, n_sc0, n_sc1, n_sc3, n_th1, n_fa] at *); omega) | exact decide_eq_false (by (try simp only [n_open, n_held, n_ready, n_sc0, n_sc1, n_sc3, n_th1, n_fa] at *); omega))] at z
        exact z
      · refine r_aload_n (pc := 29) dX11_notShut_29 rfl (by first | rfl | exact isRefV_rf _) ?_
        refine rm_getf (pc := 30) dX11_notShut_30 fX11_11 (by assumption) rfl ?_
        refine r_iload_n (pc := 33) dX11_notShut_33 rfl ?_
        refine rj_iconst (pc := 34) dX11_notShut_34 ?_
        refine r_callS2 (pc := 35) dX11_notShut_35 qX11_ofScope kX11_42 sX11_ofScope (Nat.le_of_ble_eq_true rfl) (m_ofScope (d + 1)) (fun v_35 h_35 q_35 => ?_)
        obtain ⟨rfl, rfl⟩ := q_35
        refine rj_iald (pc := 38) dX11_notShut_38 (by first | exact isM.g0 (by assumption) | exact isM.g3 (by assumption) | exact isM.g4 (by assumption) | exact isM.g8 (by assumption) | exact isM.g7 (by assumption) | exact isM.g6 (by assumption) | exact isM.g5 (by assumption) | exact isM.g1 (by assumption) | exact isM.g2 (by assumption)) (by first | assumption | exact b01_r | exact bz_r | omega | (constructor <;> omega) | exact hM _ | exact hPo _ | exact hTa _ | exact hRo _) (by first | assumption | exact b01_r | exact bz_r | omega | (constructor <;> omega) | exact hM _ | exact hPo _ | exact hTa _ | exact hRo _) (by first | assumption | exact b01_r | exact bz_r | omega | (constructor <;> omega) | exact hM _ | exact hPo _ | exact hTa _ | exact hRo _) rfl ?_
        refine rj_iconst (pc := 39) dX11_notShut_39 ?_
        refine rj_icmp_eq (pc := 40) (tgt := 47) dX11_notShut_40 (by decide) (by first | assumption | exact b01_r | exact bz_r | omega | (constructor <;> omega) | exact hM _ | exact hPo _ | exact hTa _ | exact hRo _) (by first | assumption | exact b01_r | exact bz_r | omega | (constructor <;> omega) | exact hM _ | exact hPo _ | exact hTa _ | exact hRo _) (fun c_40 => ?_) (fun c_40 => ?_)
        · refine rj_iconst (pc := 47) dX11_notShut_47 ?_
          refine rj_iadd (pc := 48) dX11_notShut_48 ?_
          refine r_istore_n (pc := 49) dX11_notShut_49 (Nat.le_of_ble_eq_true rfl) ?_
          dsimp only [lsSt, List.set, mLs, mEnt]
          refine rj_iinc (pc := 50) dX11_notShut_50 (Nat.le_of_ble_eq_true rfl) rfl ?_
          dsimp only [lsSt, List.set, mLs, mEnt]
          refine r_goto (pc := 53) (tgt := 4) dX11_notShut_53 (by decide) ?_
          have z := ih (t + 1) (by omega)
          rw [← cnt_f (by first | exact decide_eq_true (by (try simp only [n_open, n_held, n_ready, n_sc0, n_sc1, n_sc3, n_th1, n_fa] at *); omega) | exact decide_eq_false (by (try simp only [n_open, n_held, n_ready, n_sc0, n_sc1, n_sc3, n_th1, n_fa] at *); omega))] at z
          exact z
        · refine rj_iconst (pc := 43) dX11_notShut_43 ?_
          refine r_goto (pc := 44) (tgt := 48) dX11_notShut_44 (by decide) ?_
          refine rj_iadd (pc := 48) dX11_notShut_48 ?_
          refine r_istore_n (pc := 49) dX11_notShut_49 (Nat.le_of_ble_eq_true rfl) ?_
          dsimp only [lsSt, List.set, mLs, mEnt]
          refine rj_iinc (pc := 50) dX11_notShut_50 (Nat.le_of_ble_eq_true rfl) rfl ?_
          dsimp only [lsSt, List.set, mLs, mEnt]
          refine r_goto (pc := 53) (tgt := 4) dX11_notShut_53 (by decide) ?_
          have z := ih (t + 1) (by omega)
          rw [← cnt_t (by first | exact decide_eq_true (by (try simp only [n_open, n_held, n_ready, n_sc0, n_sc1, n_sc3, n_th1, n_fa] at *); omega) | exact decide_eq_false (by (try simp only [n_open, n_held, n_ready, n_sc0, n_sc1, n_sc3, n_th1, n_fa] at *); omega))] at z
          exact z
set_option maxHeartbeats 4000000 in
set_option maxRecDepth 100000 in
theorem m_notShut {G : mG} {l : Launch} (d : Nat) {h : mH} {x s : Nat} {f4 f6 f8 f9 f10 f11 f12 f13 f14 f16 f18 : Int} {m kp was pool tape pln pap rwd rw : Nat → Int}(hB : isM h x (mFs x f4 f6 f8 f9 f10 f11 f12 f13 f14 f16 f18 s) m kp was pool tape pln pap rwd rw) (hM : ∀ q, InR (m q)) {N : Nat} (hN : m 0 = (N : Int)) (hcap : N ≤ 60) {a : Int} (ha : InR a) : RUNM G l (d + 2) mX11_notShut [.ref x, .int (J a)] h (fun v h' => v = some (.int (J (cnt (shutB m a) N))) ∧ h' = h) := by
  refine RUNM.of (by decide +kernel) (Nat.le_of_ble_eq_true rfl) ?_
  refine rj_iconst (pc := 0) dX11_notShut_0 ?_
  refine r_istore_n (pc := 1) dX11_notShut_1 (Nat.le_of_ble_eq_true rfl) ?_
  dsimp only [lsSt, List.set, mLs, mEnt]
  refine rj_iconst (pc := 2) dX11_notShut_2 ?_
  refine r_istore_n (pc := 3) dX11_notShut_3 (Nat.le_of_ble_eq_true rfl) ?_
  dsimp only [lsSt, List.set, mLs, mEnt]
  exact L_notShut d hB hM hN hcap ha N 0 (by omega)
set_option maxHeartbeats 4000000 in
set_option maxRecDepth 100000 in
theorem L_gatheredBy {G : mG} {l : Launch} (d : Nat) {h : mH} {x s : Nat} {f4 f6 f8 f9 f10 f11 f12 f13 f14 f16 f18 : Int} {m kp was pool tape pln pap rwd rw : Nat → Int}(hB : isM h x (mFs x f4 f6 f8 f9 f10 f11 f12 f13 f14 f16 f18 s) m kp was pool tape pln pap rwd rw) (hM : ∀ q, InR (m q)) {N : Nat} (hN : m 4 = (N : Int)) (hcap : N ≤ 120) {a : Int} (ha : InR a) : ∀ k t : Nat, t + k = N → RUN G l (d + 2) mX11_gatheredBy 4 [some (.ref x), some (.int (J a)), some (.int (J (cnt (faultB m a) t))), some (.int (J ((t : Int))))] [] h (fun v h' => v = some (.int (J (cnt (faultB m a) N))) ∧ h' = h) := by
  dsimp only [mFs] at hB
  have rN := hM 4
  intro k
  induction k with
  | zero =>
    intro t ht
    refine r_iload_n (pc := 4) dX11_gatheredBy_4 rfl ?_
    refine r_aload_n (pc := 5) dX11_gatheredBy_5 rfl (by first | rfl | exact isRefV_rf _) ?_
    refine rm_getf (pc := 6) dX11_gatheredBy_6 fX11_11 (by assumption) rfl ?_
    refine rj_iconst (pc := 9) dX11_gatheredBy_9 ?_
    refine rj_iald (pc := 10) (j := 4) dX11_gatheredBy_10 (by first | exact isM.g0 (by assumption) | exact isM.g3 (by assumption) | exact isM.g4 (by assumption) | exact isM.g8 (by assumption) | exact isM.g7 (by assumption) | exact isM.g6 (by assumption) | exact isM.g5 (by assumption) | exact isM.g1 (by assumption) | exact isM.g2 (by assumption)) (by first | assumption | exact b01_r | exact bz_r | omega | (constructor <;> omega) | exact hM _ | exact hPo _ | exact hTa _ | exact hRo _) (by first | assumption | exact b01_r | exact bz_r | omega | (constructor <;> omega) | exact hM _ | exact hPo _ | exact hTa _ | exact hRo _) (by first | assumption | exact b01_r | exact bz_r | omega | (constructor <;> omega) | exact hM _ | exact hPo _ | exact hTa _ | exact hRo _) rfl ?_
    refine rj_icmp_ge (pc := 11) (tgt := 44) dX11_gatheredBy_11 (by decide) (by first | assumption | exact b01_r | exact bz_r | omega | (constructor <;> omega) | exact hM _ | exact hPo _ | exact hTa _ | exact hRo _) (by first | assumption | exact b01_r | exact bz_r | omega | (constructor <;> omega) | exact hM _ | exact hPo _ | exact hTa _ | exact hRo _) (fun c_11 => ?_) (fun c_11 => ?_)
    · refine r_iload_n (pc := 44) dX11_gatheredBy_44 rfl ?_
      refine r_ireturn (pc := 45) .int dX11_gatheredBy_45 rfl (by first | rfl | assumption) ?_
      have e : t = N := by omega
      subst e
      exact ⟨rfl, rfl⟩
    · refine r_iload_n (pc := 14) dX11_gatheredBy_14 rfl ?_
      refine r_aload_n (pc := 15) dX11_gatheredBy_15 rfl (by first | rfl | exact isRefV_rf _) ?_
      refine rm_getf (pc := 16) dX11_gatheredBy_16 fX11_11 (by assumption) rfl ?_
      refine rj_sipush (pc := 19) dX11_gatheredBy_19 (by decide +kernel) ?_
      refine rj_iconst (pc := 22) dX11_gatheredBy_22 ?_
      refine r_iload_n (pc := 23) dX11_gatheredBy_23 rfl ?_
      refine rj_imul (pc := 24) dX11_gatheredBy_24 ?_
      refine rj_iadd (pc := 25) dX11_gatheredBy_25 ?_
      refine rj_iald (pc := 26) dX11_gatheredBy_26 (by first | exact isM.g0 (by assumption) | exact isM.g3 (by assumption) | exact isM.g4 (by assumption) | exact isM.g8 (by assumption) | exact isM.g7 (by assumption) | exact isM.g6 (by assumption) | exact isM.g5 (by assumption) | exact isM.g1 (by assumption) | exact isM.g2 (by assumption)) (by first | assumption | exact b01_r | exact bz_r | omega | (constructor <;> omega) | exact hM _ | exact hPo _ | exact hTa _ | exact hRo _) (by first | assumption | exact b01_r | exact bz_r | omega | (constructor <;> omega) | exact hM _ | exact hPo _ | exact hTa _ | exact hRo _) (by first | assumption | exact b01_r | exact bz_r | omega | (constructor <;> omega) | exact hM _ | exact hPo _ | exact hTa _ | exact hRo _) rfl ?_
      refine r_iload_n (pc := 27) dX11_gatheredBy_27 rfl ?_
      refine rj_icmp_ne (pc := 28) (tgt := 35) dX11_gatheredBy_28 (by decide) (by first | assumption | exact b01_r | exact bz_r | omega | (constructor <;> omega) | exact hM _ | exact hPo _ | exact hTa _ | exact hRo _) (by first | assumption | exact b01_r | exact bz_r | omega | (constructor <;> omega) | exact hM _ | exact hPo _ | exact hTa _ | exact hRo _) (fun c_28 => ?_) (fun c_28 => ?_)
      · refine rj_iconst (pc := 35) dX11_gatheredBy_35 ?_
        refine rj_iadd (pc := 36) dX11_gatheredBy_36 ?_
        refine r_istore_n (pc := 37) dX11_gatheredBy_37 (Nat.le_of_ble_eq_true rfl) ?_
        dsimp only [lsSt, List.set, mLs, mEnt]
        refine rj_iinc (pc := 38) dX11_gatheredBy_38 (Nat.le_of_ble_eq_true rfl) rfl ?_
        dsimp only [lsSt, List.set, mLs, mEnt]
        refine r_goto (pc := 41) (tgt := 4) dX11_gatheredBy_41 (by decide) ?_
        exfalso; omega
      · refine rj_iconst (pc := 31) dX11_gatheredBy_31 ?_
        refine r_goto (pc := 32) (tgt := 36) dX11_gatheredBy_32 (by decide) ?_
        refine rj_iadd (pc := 36) dX11_gatheredBy_36 ?_
        refine r_istore_n (pc := 37) dX11_gatheredBy_37 (Nat.le_of_ble_eq_true rfl) ?_
        dsimp only [lsSt, List.set, mLs, mEnt]
        refine rj_iinc (pc := 38) dX11_gatheredBy_38 (Nat.le_of_ble_eq_true rfl) rfl ?_
        dsimp only [lsSt, List.set, mLs, mEnt]
        refine r_goto (pc := 41) (tgt := 4) dX11_gatheredBy_41 (by decide) ?_
        exfalso; omega
  | succ k ih =>
    intro t ht
    refine r_iload_n (pc := 4) dX11_gatheredBy_4 rfl ?_
    refine r_aload_n (pc := 5) dX11_gatheredBy_5 rfl (by first | rfl | exact isRefV_rf _) ?_
    refine rm_getf (pc := 6) dX11_gatheredBy_6 fX11_11 (by assumption) rfl ?_
    refine rj_iconst (pc := 9) dX11_gatheredBy_9 ?_
    refine rj_iald (pc := 10) (j := 4) dX11_gatheredBy_10 (by first | exact isM.g0 (by assumption) | exact isM.g3 (by assumption) | exact isM.g4 (by assumption) | exact isM.g8 (by assumption) | exact isM.g7 (by assumption) | exact isM.g6 (by assumption) | exact isM.g5 (by assumption) | exact isM.g1 (by assumption) | exact isM.g2 (by assumption)) (by first | assumption | exact b01_r | exact bz_r | omega | (constructor <;> omega) | exact hM _ | exact hPo _ | exact hTa _ | exact hRo _) (by first | assumption | exact b01_r | exact bz_r | omega | (constructor <;> omega) | exact hM _ | exact hPo _ | exact hTa _ | exact hRo _) (by first | assumption | exact b01_r | exact bz_r | omega | (constructor <;> omega) | exact hM _ | exact hPo _ | exact hTa _ | exact hRo _) rfl ?_
    refine rj_icmp_ge (pc := 11) (tgt := 44) dX11_gatheredBy_11 (by decide) (by first | assumption | exact b01_r | exact bz_r | omega | (constructor <;> omega) | exact hM _ | exact hPo _ | exact hTa _ | exact hRo _) (by first | assumption | exact b01_r | exact bz_r | omega | (constructor <;> omega) | exact hM _ | exact hPo _ | exact hTa _ | exact hRo _) (fun c_11 => ?_) (fun c_11 => ?_)
    · refine r_iload_n (pc := 44) dX11_gatheredBy_44 rfl ?_
      refine r_ireturn (pc := 45) .int dX11_gatheredBy_45 rfl (by first | rfl | assumption) ?_
      exfalso; omega
    · refine r_iload_n (pc := 14) dX11_gatheredBy_14 rfl ?_
      refine r_aload_n (pc := 15) dX11_gatheredBy_15 rfl (by first | rfl | exact isRefV_rf _) ?_
      refine rm_getf (pc := 16) dX11_gatheredBy_16 fX11_11 (by assumption) rfl ?_
      refine rj_sipush (pc := 19) dX11_gatheredBy_19 (by decide +kernel) ?_
      refine rj_iconst (pc := 22) dX11_gatheredBy_22 ?_
      refine r_iload_n (pc := 23) dX11_gatheredBy_23 rfl ?_
      refine rj_imul (pc := 24) dX11_gatheredBy_24 ?_
      refine rj_iadd (pc := 25) dX11_gatheredBy_25 ?_
      refine rj_iald (pc := 26) dX11_gatheredBy_26 (by first | exact isM.g0 (by assumption) | exact isM.g3 (by assumption) | exact isM.g4 (by assumption) | exact isM.g8 (by assumption) | exact isM.g7 (by assumption) | exact isM.g6 (by assumption) | exact isM.g5 (by assumption) | exact isM.g1 (by assumption) | exact isM.g2 (by assumption)) (by first | assumption | exact b01_r | exact bz_r | omega | (constructor <;> omega) | exact hM _ | exact hPo _ | exact hTa _ | exact hRo _) (by first | assumption | exact b01_r | exact bz_r | omega | (constructor <;> omega) | exact hM _ | exact hPo _ | exact hTa _ | exact hRo _) (by first | assumption | exact b01_r | exact bz_r | omega | (constructor <;> omega) | exact hM _ | exact hPo _ | exact hTa _ | exact hRo _) rfl ?_
      refine r_iload_n (pc := 27) dX11_gatheredBy_27 rfl ?_
      refine rj_icmp_ne (pc := 28) (tgt := 35) dX11_gatheredBy_28 (by decide) (by first | assumption | exact b01_r | exact bz_r | omega | (constructor <;> omega) | exact hM _ | exact hPo _ | exact hTa _ | exact hRo _) (by first | assumption | exact b01_r | exact bz_r | omega | (constructor <;> omega) | exact hM _ | exact hPo _ | exact hTa _ | exact hRo _) (fun c_28 => ?_) (fun c_28 => ?_)
      · refine rj_iconst (pc := 35) dX11_gatheredBy_35 ?_
        refine rj_iadd (pc := 36) dX11_gatheredBy_36 ?_
        refine r_istore_n (pc := 37) dX11_gatheredBy_37 (Nat.le_of_ble_eq_true rfl) ?_
        dsimp only [lsSt, List.set, mLs, mEnt]
        refine rj_iinc (pc := 38) dX11_gatheredBy_38 (Nat.le_of_ble_eq_true rfl) rfl ?_
        dsimp only [lsSt, List.set, mLs, mEnt]
        refine r_goto (pc := 41) (tgt := 4) dX11_gatheredBy_41 (by decide) ?_
        have z := ih (t + 1) (by omega)
        rw [← cnt_f (by first | exact decide_eq_true (by (try simp only [n_open, n_held, n_ready, n_sc0, n_sc1, n_sc3, n_th1, n_fa] at *); omega) | exact decide_eq_false (by (try simp only [n_open, n_held, n_ready, n_sc0, n_sc1, n_sc3, n_th1, n_fa] at *); omega))] at z
        exact z
      · refine rj_iconst (pc := 31) dX11_gatheredBy_31 ?_
        refine r_goto (pc := 32) (tgt := 36) dX11_gatheredBy_32 (by decide) ?_
        refine rj_iadd (pc := 36) dX11_gatheredBy_36 ?_
        refine r_istore_n (pc := 37) dX11_gatheredBy_37 (Nat.le_of_ble_eq_true rfl) ?_
        dsimp only [lsSt, List.set, mLs, mEnt]
        refine rj_iinc (pc := 38) dX11_gatheredBy_38 (Nat.le_of_ble_eq_true rfl) rfl ?_
        dsimp only [lsSt, List.set, mLs, mEnt]
        refine r_goto (pc := 41) (tgt := 4) dX11_gatheredBy_41 (by decide) ?_
        have z := ih (t + 1) (by omega)
        rw [← cnt_t (by first | exact decide_eq_true (by (try simp only [n_open, n_held, n_ready, n_sc0, n_sc1, n_sc3, n_th1, n_fa] at *); omega) | exact decide_eq_false (by (try simp only [n_open, n_held, n_ready, n_sc0, n_sc1, n_sc3, n_th1, n_fa] at *); omega))] at z
        exact z
set_option maxHeartbeats 4000000 in
set_option maxRecDepth 100000 in
theorem m_gatheredBy {G : mG} {l : Launch} (d : Nat) {h : mH} {x s : Nat} {f4 f6 f8 f9 f10 f11 f12 f13 f14 f16 f18 : Int} {m kp was pool tape pln pap rwd rw : Nat → Int}(hB : isM h x (mFs x f4 f6 f8 f9 f10 f11 f12 f13 f14 f16 f18 s) m kp was pool tape pln pap rwd rw) (hM : ∀ q, InR (m q)) {N : Nat} (hN : m 4 = (N : Int)) (hcap : N ≤ 120) {a : Int} (ha : InR a) : RUNM G l (d + 2) mX11_gatheredBy [.ref x, .int (J a)] h (fun v h' => v = some (.int (J (cnt (faultB m a) N))) ∧ h' = h) := by
  refine RUNM.of (by decide +kernel) (Nat.le_of_ble_eq_true rfl) ?_
  refine rj_iconst (pc := 0) dX11_gatheredBy_0 ?_
  refine r_istore_n (pc := 1) dX11_gatheredBy_1 (Nat.le_of_ble_eq_true rfl) ?_
  dsimp only [lsSt, List.set, mLs, mEnt]
  refine rj_iconst (pc := 2) dX11_gatheredBy_2 ?_
  refine r_istore_n (pc := 3) dX11_gatheredBy_3 (Nat.le_of_ble_eq_true rfl) ?_
  dsimp only [lsSt, List.set, mLs, mEnt]
  exact L_gatheredBy d hB hM hN hcap ha N 0 (by omega)
def entSC (m : Nat → Int) (a : Int) (q : Nat) : Bool := decide (1 ≤ q) && entSB m a q
theorem cnt_1 (m : Nat → Int) (a : Int) : cnt (entSC m a) 1 = 0 := by simp [cnt, entSC]
def entsN (m : Nat → Int) (a : Int) (N C : Nat) : Int := cnt (entTB m a) N + cnt (entSC m a) C
set_option maxHeartbeats 4000000 in
set_option maxRecDepth 100000 in
theorem L_entS {G : mG} {l : Launch} (d : Nat) {h : mH} {x s : Nat} {f4 f6 f8 f9 f10 f11 f12 f13 f14 f16 f18 : Int} {m kp was pool tape pln pap rwd rw : Nat → Int}(hB : isM h x (mFs x f4 f6 f8 f9 f10 f11 f12 f13 f14 f16 f18 s) m kp was pool tape pln pap rwd rw) (hM : ∀ q, InR (m q)) {N C : Nat} (hN : m 1 = (N : Int)) (hcap : N ≤ 90) (hC : m 0 = (C : Int)) (hC1 : 1 ≤ C) (hC2 : C ≤ 60) {a : Int} (ha : InR a) : ∀ k t : Nat, t + k = C → 1 ≤ t → RUN G l (d + 2) mX11_entries 53 [some (.ref x), some (.int (J a)), some (.int (J (cnt (entTB m a) N + cnt (entSC m a) t))), some (.int (J (t : Int)))] [] h (fun v h' => v = some (.int (J (entsN m a N C))) ∧ h' = h) := by
  dsimp only [mFs] at hB
  have rN := hM 1
  have r0 := hM 0
  intro k
  induction k with
  | zero =>
    intro t ht ht1
    refine r_iload_n (pc := 53) dX11_entries_53 rfl ?_
    refine r_aload_n (pc := 54) dX11_entries_54 rfl (by first | rfl | exact isRefV_rf _) ?_
    refine rm_getf (pc := 55) dX11_entries_55 fX11_11 (by assumption) rfl ?_
    refine rj_iconst (pc := 58) dX11_entries_58 ?_
    refine rj_iald (pc := 59) (j := 0) dX11_entries_59 (by first | exact isM.g0 (by assumption) | exact isM.g3 (by assumption) | exact isM.g4 (by assumption) | exact isM.g8 (by assumption) | exact isM.g7 (by assumption) | exact isM.g6 (by assumption) | exact isM.g5 (by assumption) | exact isM.g1 (by assumption) | exact isM.g2 (by assumption)) (by first | assumption | exact b01_r | exact bz_r | omega | (constructor <;> omega) | exact hM _ | exact hPo _ | exact hTa _ | exact hRo _) (by first | assumption | exact b01_r | exact bz_r | omega | (constructor <;> omega) | exact hM _ | exact hPo _ | exact hTa _ | exact hRo _) (by first | assumption | exact b01_r | exact bz_r | omega | (constructor <;> omega) | exact hM _ | exact hPo _ | exact hTa _ | exact hRo _) rfl ?_
    refine rj_icmp_ge (pc := 60) (tgt := 105) dX11_entries_60 (by decide) (by first | assumption | exact b01_r | exact bz_r | omega | (constructor <;> omega) | exact hM _ | exact hPo _ | exact hTa _ | exact hRo _) (by first | assumption | exact b01_r | exact bz_r | omega | (constructor <;> omega) | exact hM _ | exact hPo _ | exact hTa _ | exact hRo _) (fun c_60 => ?_) (fun c_60 => ?_)
    · refine r_iload_n (pc := 105) dX11_entries_105 rfl ?_
      refine r_ireturn (pc := 106) .int dX11_entries_106 rfl (by first | rfl | assumption) ?_
      have e : t = C := by omega
      subst e
      exact ⟨rfl, rfl⟩
    · refine r_iload_n (pc := 63) dX11_entries_63 rfl ?_
      refine r_aload_n (pc := 64) dX11_entries_64 rfl (by first | rfl | exact isRefV_rf _) ?_
      refine rm_getf (pc := 65) dX11_entries_65 fX11_11 (by assumption) rfl ?_
      refine r_iload_n (pc := 68) dX11_entries_68 rfl ?_
      refine rj_iconst (pc := 69) dX11_entries_69 ?_
      refine r_callS2 (pc := 70) dX11_entries_70 qX11_ofScope kX11_42 sX11_ofScope (Nat.le_of_ble_eq_true rfl) (m_ofScope (d + 1)) (fun v_70 h_70 q_70 => ?_)
      obtain ⟨rfl, rfl⟩ := q_70
      refine rj_iald (pc := 73) dX11_entries_73 (by first | exact isM.g0 (by assumption) | exact isM.g3 (by assumption) | exact isM.g4 (by assumption) | exact isM.g8 (by assumption) | exact isM.g7 (by assumption) | exact isM.g6 (by assumption) | exact isM.g5 (by assumption) | exact isM.g1 (by assumption) | exact isM.g2 (by assumption)) (by first | assumption | exact b01_r | exact bz_r | omega | (constructor <;> omega) | exact hM _ | exact hPo _ | exact hTa _ | exact hRo _) (by first | assumption | exact b01_r | exact bz_r | omega | (constructor <;> omega) | exact hM _ | exact hPo _ | exact hTa _ | exact hRo _) (by first | assumption | exact b01_r | exact bz_r | omega | (constructor <;> omega) | exact hM _ | exact hPo _ | exact hTa _ | exact hRo _) rfl ?_
      refine rj_iconst (pc := 74) dX11_entries_74 ?_
      refine rj_icmp_eq (pc := 75) (tgt := 96) dX11_entries_75 (by decide) (by first | assumption | exact b01_r | exact bz_r | omega | (constructor <;> omega) | exact hM _ | exact hPo _ | exact hTa _ | exact hRo _) (by first | assumption | exact b01_r | exact bz_r | omega | (constructor <;> omega) | exact hM _ | exact hPo _ | exact hTa _ | exact hRo _) (fun c_75 => ?_) (fun c_75 => ?_)
      · refine rj_iconst (pc := 96) dX11_entries_96 ?_
        refine rj_iadd (pc := 97) dX11_entries_97 ?_
        refine r_istore_n (pc := 98) dX11_entries_98 (Nat.le_of_ble_eq_true rfl) ?_
        dsimp only [lsSt, List.set, mLs, mEnt]
        refine rj_iinc (pc := 99) dX11_entries_99 (Nat.le_of_ble_eq_true rfl) rfl ?_
        dsimp only [lsSt, List.set, mLs, mEnt]
        refine r_goto (pc := 102) (tgt := 53) dX11_entries_102 (by decide) ?_
        exfalso; omega
      · refine r_aload_n (pc := 78) dX11_entries_78 rfl (by first | rfl | exact isRefV_rf _) ?_
        refine rm_getf (pc := 79) dX11_entries_79 fX11_11 (by assumption) rfl ?_
        refine r_iload_n (pc := 82) dX11_entries_82 rfl ?_
        refine rj_iconst (pc := 83) dX11_entries_83 ?_
        refine r_callS2 (pc := 84) dX11_entries_84 qX11_ofScope kX11_42 sX11_ofScope (Nat.le_of_ble_eq_true rfl) (m_ofScope (d + 1)) (fun v_84 h_84 q_84 => ?_)
        obtain ⟨rfl, rfl⟩ := q_84
        refine rj_iald (pc := 87) dX11_entries_87 (by first | exact isM.g0 (by assumption) | exact isM.g3 (by assumption) | exact isM.g4 (by assumption) | exact isM.g8 (by assumption) | exact isM.g7 (by assumption) | exact isM.g6 (by assumption) | exact isM.g5 (by assumption) | exact isM.g1 (by assumption) | exact isM.g2 (by assumption)) (by first | assumption | exact b01_r | exact bz_r | omega | (constructor <;> omega) | exact hM _ | exact hPo _ | exact hTa _ | exact hRo _) (by first | assumption | exact b01_r | exact bz_r | omega | (constructor <;> omega) | exact hM _ | exact hPo _ | exact hTa _ | exact hRo _) (by first | assumption | exact b01_r | exact bz_r | omega | (constructor <;> omega) | exact hM _ | exact hPo _ | exact hTa _ | exact hRo _) rfl ?_
        refine r_iload_n (pc := 88) dX11_entries_88 rfl ?_
        refine rj_icmp_ne (pc := 89) (tgt := 96) dX11_entries_89 (by decide) (by first | assumption | exact b01_r | exact bz_r | omega | (constructor <;> omega) | exact hM _ | exact hPo _ | exact hTa _ | exact hRo _) (by first | assumption | exact b01_r | exact bz_r | omega | (constructor <;> omega) | exact hM _ | exact hPo _ | exact hTa _ | exact hRo _) (fun c_89 => ?_) (fun c_89 => ?_)
        · refine rj_iconst (pc := 96) dX11_entries_96 ?_
          refine rj_iadd (pc := 97) dX11_entries_97 ?_
          refine r_istore_n (pc := 98) dX11_entries_98 (Nat.le_of_ble_eq_true rfl) ?_
          dsimp only [lsSt, List.set, mLs, mEnt]
          refine rj_iinc (pc := 99) dX11_entries_99 (Nat.le_of_ble_eq_true rfl) rfl ?_
          dsimp only [lsSt, List.set, mLs, mEnt]
          refine r_goto (pc := 102) (tgt := 53) dX11_entries_102 (by decide) ?_
          exfalso; omega
        · refine rj_iconst (pc := 92) dX11_entries_92 ?_
          refine r_goto (pc := 93) (tgt := 97) dX11_entries_93 (by decide) ?_
          refine rj_iadd (pc := 97) dX11_entries_97 ?_
          refine r_istore_n (pc := 98) dX11_entries_98 (Nat.le_of_ble_eq_true rfl) ?_
          dsimp only [lsSt, List.set, mLs, mEnt]
          refine rj_iinc (pc := 99) dX11_entries_99 (Nat.le_of_ble_eq_true rfl) rfl ?_
          dsimp only [lsSt, List.set, mLs, mEnt]
          refine r_goto (pc := 102) (tgt := 53) dX11_entries_102 (by decide) ?_
          exfalso; omega
  | succ k ih =>
    intro t ht ht1
    refine r_iload_n (pc := 53) dX11_entries_53 rfl ?_
    refine r_aload_n (pc := 54) dX11_entries_54 rfl (by first | rfl | exact isRefV_rf _) ?_
    refine rm_getf (pc := 55) dX11_entries_55 fX11_11 (by assumption) rfl ?_
    refine rj_iconst (pc := 58) dX11_entries_58 ?_
    refine rj_iald (pc := 59) (j := 0) dX11_entries_59 (by first | exact isM.g0 (by assumption) | exact isM.g3 (by assumption) | exact isM.g4 (by assumption) | exact isM.g8 (by assumption) | exact isM.g7 (by assumption) | exact isM.g6 (by assumption) | exact isM.g5 (by assumption) | exact isM.g1 (by assumption) | exact isM.g2 (by assumption)) (by first | assumption | exact b01_r | exact bz_r | omega | (constructor <;> omega) | exact hM _ | exact hPo _ | exact hTa _ | exact hRo _) (by first | assumption | exact b01_r | exact bz_r | omega | (constructor <;> omega) | exact hM _ | exact hPo _ | exact hTa _ | exact hRo _) (by first | assumption | exact b01_r | exact bz_r | omega | (constructor <;> omega) | exact hM _ | exact hPo _ | exact hTa _ | exact hRo _) rfl ?_
    refine rj_icmp_ge (pc := 60) (tgt := 105) dX11_entries_60 (by decide) (by first | assumption | exact b01_r | exact bz_r | omega | (constructor <;> omega) | exact hM _ | exact hPo _ | exact hTa _ | exact hRo _) (by first | assumption | exact b01_r | exact bz_r | omega | (constructor <;> omega) | exact hM _ | exact hPo _ | exact hTa _ | exact hRo _) (fun c_60 => ?_) (fun c_60 => ?_)
    · refine r_iload_n (pc := 105) dX11_entries_105 rfl ?_
      refine r_ireturn (pc := 106) .int dX11_entries_106 rfl (by first | rfl | assumption) ?_
      exfalso; omega
    · refine r_iload_n (pc := 63) dX11_entries_63 rfl ?_
      refine r_aload_n (pc := 64) dX11_entries_64 rfl (by first | rfl | exact isRefV_rf _) ?_
      refine rm_getf (pc := 65) dX11_entries_65 fX11_11 (by assumption) rfl ?_
      refine r_iload_n (pc := 68) dX11_entries_68 rfl ?_
      refine rj_iconst (pc := 69) dX11_entries_69 ?_
      refine r_callS2 (pc := 70) dX11_entries_70 qX11_ofScope kX11_42 sX11_ofScope (Nat.le_of_ble_eq_true rfl) (m_ofScope (d + 1)) (fun v_70 h_70 q_70 => ?_)
      obtain ⟨rfl, rfl⟩ := q_70
      refine rj_iald (pc := 73) dX11_entries_73 (by first | exact isM.g0 (by assumption) | exact isM.g3 (by assumption) | exact isM.g4 (by assumption) | exact isM.g8 (by assumption) | exact isM.g7 (by assumption) | exact isM.g6 (by assumption) | exact isM.g5 (by assumption) | exact isM.g1 (by assumption) | exact isM.g2 (by assumption)) (by first | assumption | exact b01_r | exact bz_r | omega | (constructor <;> omega) | exact hM _ | exact hPo _ | exact hTa _ | exact hRo _) (by first | assumption | exact b01_r | exact bz_r | omega | (constructor <;> omega) | exact hM _ | exact hPo _ | exact hTa _ | exact hRo _) (by first | assumption | exact b01_r | exact bz_r | omega | (constructor <;> omega) | exact hM _ | exact hPo _ | exact hTa _ | exact hRo _) rfl ?_
      refine rj_iconst (pc := 74) dX11_entries_74 ?_
      refine rj_icmp_eq (pc := 75) (tgt := 96) dX11_entries_75 (by decide) (by first | assumption | exact b01_r | exact bz_r | omega | (constructor <;> omega) | exact hM _ | exact hPo _ | exact hTa _ | exact hRo _) (by first | assumption | exact b01_r | exact bz_r | omega | (constructor <;> omega) | exact hM _ | exact hPo _ | exact hTa _ | exact hRo _) (fun c_75 => ?_) (fun c_75 => ?_)
      · refine rj_iconst (pc := 96) dX11_entries_96 ?_
        refine rj_iadd (pc := 97) dX11_entries_97 ?_
        refine r_istore_n (pc := 98) dX11_entries_98 (Nat.le_of_ble_eq_true rfl) ?_
        dsimp only [lsSt, List.set, mLs, mEnt]
        refine rj_iinc (pc := 99) dX11_entries_99 (Nat.le_of_ble_eq_true rfl) rfl ?_
        dsimp only [lsSt, List.set, mLs, mEnt]
        refine r_goto (pc := 102) (tgt := 53) dX11_entries_102 (by decide) ?_
        have z := ih (t + 1) (by omega) (by omega)
        rw [← cnt_f (by simp only [entSC, entSB, Bool.and_eq_true, decide_eq_true_eq, Bool.and_eq_false_iff, decide_eq_false_iff_not]; (try simp only [n_open, n_held, n_ready, n_sc0, n_sc1, n_sc3, n_th1, n_fa] at *); omega), ← Int.add_assoc] at z
        exact z
      · refine r_aload_n (pc := 78) dX11_entries_78 rfl (by first | rfl | exact isRefV_rf _) ?_
        refine rm_getf (pc := 79) dX11_entries_79 fX11_11 (by assumption) rfl ?_
        refine r_iload_n (pc := 82) dX11_entries_82 rfl ?_
        refine rj_iconst (pc := 83) dX11_entries_83 ?_
        refine r_callS2 (pc := 84) dX11_entries_84 qX11_ofScope kX11_42 sX11_ofScope (Nat.le_of_ble_eq_true rfl) (m_ofScope (d + 1)) (fun v_84 h_84 q_84 => ?_)
        obtain ⟨rfl, rfl⟩ := q_84
        refine rj_iald (pc := 87) dX11_entries_87 (by first | exact isM.g0 (by assumption) | exact isM.g3 (by assumption) | exact isM.g4 (by assumption) | exact isM.g8 (by assumption) | exact isM.g7 (by assumption) | exact isM.g6 (by assumption) | exact isM.g5 (by assumption) | exact isM.g1 (by assumption) | exact isM.g2 (by assumption)) (by first | assumption | exact b01_r | exact bz_r | omega | (constructor <;> omega) | exact hM _ | exact hPo _ | exact hTa _ | exact hRo _) (by first | assumption | exact b01_r | exact bz_r | omega | (constructor <;> omega) | exact hM _ | exact hPo _ | exact hTa _ | exact hRo _) (by first | assumption | exact b01_r | exact bz_r | omega | (constructor <;> omega) | exact hM _ | exact hPo _ | exact hTa _ | exact hRo _) rfl ?_
        refine r_iload_n (pc := 88) dX11_entries_88 rfl ?_
        refine rj_icmp_ne (pc := 89) (tgt := 96) dX11_entries_89 (by decide) (by first | assumption | exact b01_r | exact bz_r | omega | (constructor <;> omega) | exact hM _ | exact hPo _ | exact hTa _ | exact hRo _) (by first | assumption | exact b01_r | exact bz_r | omega | (constructor <;> omega) | exact hM _ | exact hPo _ | exact hTa _ | exact hRo _) (fun c_89 => ?_) (fun c_89 => ?_)
        · refine rj_iconst (pc := 96) dX11_entries_96 ?_
          refine rj_iadd (pc := 97) dX11_entries_97 ?_
          refine r_istore_n (pc := 98) dX11_entries_98 (Nat.le_of_ble_eq_true rfl) ?_
          dsimp only [lsSt, List.set, mLs, mEnt]
          refine rj_iinc (pc := 99) dX11_entries_99 (Nat.le_of_ble_eq_true rfl) rfl ?_
          dsimp only [lsSt, List.set, mLs, mEnt]
          refine r_goto (pc := 102) (tgt := 53) dX11_entries_102 (by decide) ?_
          have z := ih (t + 1) (by omega) (by omega)
          rw [← cnt_f (by simp only [entSC, entSB, Bool.and_eq_true, decide_eq_true_eq, Bool.and_eq_false_iff, decide_eq_false_iff_not]; (try simp only [n_open, n_held, n_ready, n_sc0, n_sc1, n_sc3, n_th1, n_fa] at *); omega), ← Int.add_assoc] at z
          exact z
        · refine rj_iconst (pc := 92) dX11_entries_92 ?_
          refine r_goto (pc := 93) (tgt := 97) dX11_entries_93 (by decide) ?_
          refine rj_iadd (pc := 97) dX11_entries_97 ?_
          refine r_istore_n (pc := 98) dX11_entries_98 (Nat.le_of_ble_eq_true rfl) ?_
          dsimp only [lsSt, List.set, mLs, mEnt]
          refine rj_iinc (pc := 99) dX11_entries_99 (Nat.le_of_ble_eq_true rfl) rfl ?_
          dsimp only [lsSt, List.set, mLs, mEnt]
          refine r_goto (pc := 102) (tgt := 53) dX11_entries_102 (by decide) ?_
          have z := ih (t + 1) (by omega) (by omega)
          rw [← cnt_t (by simp only [entSC, entSB, Bool.and_eq_true, decide_eq_true_eq, Bool.and_eq_false_iff, decide_eq_false_iff_not]; (try simp only [n_open, n_held, n_ready, n_sc0, n_sc1, n_sc3, n_th1, n_fa] at *); omega), ← Int.add_assoc] at z
          exact z
set_option maxHeartbeats 4000000 in
set_option maxRecDepth 100000 in
theorem L_entT {G : mG} {l : Launch} (d : Nat) {h : mH} {x s : Nat} {f4 f6 f8 f9 f10 f11 f12 f13 f14 f16 f18 : Int} {m kp was pool tape pln pap rwd rw : Nat → Int}(hB : isM h x (mFs x f4 f6 f8 f9 f10 f11 f12 f13 f14 f16 f18 s) m kp was pool tape pln pap rwd rw) (hM : ∀ q, InR (m q)) {N C : Nat} (hN : m 1 = (N : Int)) (hcap : N ≤ 90) (hC : m 0 = (C : Int)) (hC1 : 1 ≤ C) (hC2 : C ≤ 60) {a : Int} (ha : InR a) : ∀ k t : Nat, t + k = N → RUN G l (d + 2) mX11_entries 4 [some (.ref x), some (.int (J a)), some (.int (J (cnt (entTB m a) t))), some (.int (J (t : Int)))] [] h (fun v h' => v = some (.int (J (entsN m a N C))) ∧ h' = h) := by
  dsimp only [mFs] at hB
  have rN := hM 1
  have r0 := hM 0
  intro k
  induction k with
  | zero =>
    intro t ht
    refine r_iload_n (pc := 4) dX11_entries_4 rfl ?_
    refine r_aload_n (pc := 5) dX11_entries_5 rfl (by first | rfl | exact isRefV_rf _) ?_
    refine rm_getf (pc := 6) dX11_entries_6 fX11_11 (by assumption) rfl ?_
    refine rj_iconst (pc := 9) dX11_entries_9 ?_
    refine rj_iald (pc := 10) (j := 1) dX11_entries_10 (by first | exact isM.g0 (by assumption) | exact isM.g3 (by assumption) | exact isM.g4 (by assumption) | exact isM.g8 (by assumption) | exact isM.g7 (by assumption) | exact isM.g6 (by assumption) | exact isM.g5 (by assumption) | exact isM.g1 (by assumption) | exact isM.g2 (by assumption)) (by first | assumption | exact b01_r | exact bz_r | omega | (constructor <;> omega) | exact hM _ | exact hPo _ | exact hTa _ | exact hRo _) (by first | assumption | exact b01_r | exact bz_r | omega | (constructor <;> omega) | exact hM _ | exact hPo _ | exact hTa _ | exact hRo _) (by first | assumption | exact b01_r | exact bz_r | omega | (constructor <;> omega) | exact hM _ | exact hPo _ | exact hTa _ | exact hRo _) rfl ?_
    refine rj_icmp_ge (pc := 11) (tgt := 51) dX11_entries_11 (by decide) (by first | assumption | exact b01_r | exact bz_r | omega | (constructor <;> omega) | exact hM _ | exact hPo _ | exact hTa _ | exact hRo _) (by first | assumption | exact b01_r | exact bz_r | omega | (constructor <;> omega) | exact hM _ | exact hPo _ | exact hTa _ | exact hRo _) (fun c_11 => ?_) (fun c_11 => ?_)
    · refine rj_iconst (pc := 51) dX11_entries_51 ?_
      refine r_istore_n (pc := 52) dX11_entries_52 (Nat.le_of_ble_eq_true rfl) ?_
      dsimp only [lsSt, List.set, mLs, mEnt]
      have e : t = N := by omega
      subst e
      have z := L_entS (G := G) (l := l) d hB hM hN hcap hC hC1 hC2 ha (C - 1) 1 (by omega) (Nat.le_refl _)
      rw [cnt_1, Int.add_zero] at z
      exact z
    · refine r_iload_n (pc := 14) dX11_entries_14 rfl ?_
      refine r_aload_n (pc := 15) dX11_entries_15 rfl (by first | rfl | exact isRefV_rf _) ?_
      refine r_iload_n (pc := 16) dX11_entries_16 rfl ?_
      refine r_callV1 (pc := 17) dX11_entries_17 qX11_isHeld kX11_119 vX11_isHeld (by exact isM.gx (by assumption)) rfl rfl (Nat.le_of_ble_eq_true rfl) (m_isHeld d hB hM (by omega) (by omega)) (fun v_17 h_17 q_17 => ?_)
      obtain ⟨rfl, rfl⟩ := q_17
      refine rj_if_eq (pc := 20) (tgt := 42) dX11_entries_20 (by decide) (by first | assumption | exact b01_r | exact bz_r | omega | (constructor <;> omega) | exact hM _ | exact hPo _ | exact hTa _ | exact hRo _) (fun c_20 => ?_) (fun c_20 => ?_)
      · try simp only [b01_0, bz_0, Classical.not_not] at c_20
        refine rj_iconst (pc := 42) dX11_entries_42 ?_
        refine rj_iadd (pc := 43) dX11_entries_43 ?_
        refine r_istore_n (pc := 44) dX11_entries_44 (Nat.le_of_ble_eq_true rfl) ?_
        dsimp only [lsSt, List.set, mLs, mEnt]
        refine rj_iinc (pc := 45) dX11_entries_45 (Nat.le_of_ble_eq_true rfl) rfl ?_
        dsimp only [lsSt, List.set, mLs, mEnt]
        refine r_goto (pc := 48) (tgt := 4) dX11_entries_48 (by decide) ?_
        exfalso; omega
      · try simp only [b01_0, bz_0, Classical.not_not] at c_20
        refine r_aload_n (pc := 23) dX11_entries_23 rfl (by first | rfl | exact isRefV_rf _) ?_
        refine rm_getf (pc := 24) dX11_entries_24 fX11_11 (by assumption) rfl ?_
        refine r_iload_n (pc := 27) dX11_entries_27 rfl ?_
        refine rj_iconst (pc := 28) dX11_entries_28 ?_
        refine rj_iconst (pc := 29) dX11_entries_29 ?_
        refine r_callS3 (pc := 30) dX11_entries_30 qX11_ofThing kX11_54 sX11_ofThing (Nat.le_of_ble_eq_true rfl) (m_ofThing (d + 1)) (fun v_30 h_30 q_30 => ?_)
        obtain ⟨rfl, rfl⟩ := q_30
        refine rj_iald (pc := 33) dX11_entries_33 (by first | exact isM.g0 (by assumption) | exact isM.g3 (by assumption) | exact isM.g4 (by assumption) | exact isM.g8 (by assumption) | exact isM.g7 (by assumption) | exact isM.g6 (by assumption) | exact isM.g5 (by assumption) | exact isM.g1 (by assumption) | exact isM.g2 (by assumption)) (by first | assumption | exact b01_r | exact bz_r | omega | (constructor <;> omega) | exact hM _ | exact hPo _ | exact hTa _ | exact hRo _) (by first | assumption | exact b01_r | exact bz_r | omega | (constructor <;> omega) | exact hM _ | exact hPo _ | exact hTa _ | exact hRo _) (by first | assumption | exact b01_r | exact bz_r | omega | (constructor <;> omega) | exact hM _ | exact hPo _ | exact hTa _ | exact hRo _) rfl ?_
        refine r_iload_n (pc := 34) dX11_entries_34 rfl ?_
        refine rj_icmp_ne (pc := 35) (tgt := 42) dX11_entries_35 (by decide) (by first | assumption | exact b01_r | exact bz_r | omega | (constructor <;> omega) | exact hM _ | exact hPo _ | exact hTa _ | exact hRo _) (by first | assumption | exact b01_r | exact bz_r | omega | (constructor <;> omega) | exact hM _ | exact hPo _ | exact hTa _ | exact hRo _) (fun c_35 => ?_) (fun c_35 => ?_)
        · refine rj_iconst (pc := 42) dX11_entries_42 ?_
          refine rj_iadd (pc := 43) dX11_entries_43 ?_
          refine r_istore_n (pc := 44) dX11_entries_44 (Nat.le_of_ble_eq_true rfl) ?_
          dsimp only [lsSt, List.set, mLs, mEnt]
          refine rj_iinc (pc := 45) dX11_entries_45 (Nat.le_of_ble_eq_true rfl) rfl ?_
          dsimp only [lsSt, List.set, mLs, mEnt]
          refine r_goto (pc := 48) (tgt := 4) dX11_entries_48 (by decide) ?_
          exfalso; omega
        · refine rj_iconst (pc := 38) dX11_entries_38 ?_
          refine r_goto (pc := 39) (tgt := 43) dX11_entries_39 (by decide) ?_
          refine rj_iadd (pc := 43) dX11_entries_43 ?_
          refine r_istore_n (pc := 44) dX11_entries_44 (Nat.le_of_ble_eq_true rfl) ?_
          dsimp only [lsSt, List.set, mLs, mEnt]
          refine rj_iinc (pc := 45) dX11_entries_45 (Nat.le_of_ble_eq_true rfl) rfl ?_
          dsimp only [lsSt, List.set, mLs, mEnt]
          refine r_goto (pc := 48) (tgt := 4) dX11_entries_48 (by decide) ?_
          exfalso; omega
  | succ k ih =>
    intro t ht
    refine r_iload_n (pc := 4) dX11_entries_4 rfl ?_
    refine r_aload_n (pc := 5) dX11_entries_5 rfl (by first | rfl | exact isRefV_rf _) ?_
    refine rm_getf (pc := 6) dX11_entries_6 fX11_11 (by assumption) rfl ?_
    refine rj_iconst (pc := 9) dX11_entries_9 ?_
    refine rj_iald (pc := 10) (j := 1) dX11_entries_10 (by first | exact isM.g0 (by assumption) | exact isM.g3 (by assumption) | exact isM.g4 (by assumption) | exact isM.g8 (by assumption) | exact isM.g7 (by assumption) | exact isM.g6 (by assumption) | exact isM.g5 (by assumption) | exact isM.g1 (by assumption) | exact isM.g2 (by assumption)) (by first | assumption | exact b01_r | exact bz_r | omega | (constructor <;> omega) | exact hM _ | exact hPo _ | exact hTa _ | exact hRo _) (by first | assumption | exact b01_r | exact bz_r | omega | (constructor <;> omega) | exact hM _ | exact hPo _ | exact hTa _ | exact hRo _) (by first | assumption | exact b01_r | exact bz_r | omega | (constructor <;> omega) | exact hM _ | exact hPo _ | exact hTa _ | exact hRo _) rfl ?_
    refine rj_icmp_ge (pc := 11) (tgt := 51) dX11_entries_11 (by decide) (by first | assumption | exact b01_r | exact bz_r | omega | (constructor <;> omega) | exact hM _ | exact hPo _ | exact hTa _ | exact hRo _) (by first | assumption | exact b01_r | exact bz_r | omega | (constructor <;> omega) | exact hM _ | exact hPo _ | exact hTa _ | exact hRo _) (fun c_11 => ?_) (fun c_11 => ?_)
    · refine rj_iconst (pc := 51) dX11_entries_51 ?_
      refine r_istore_n (pc := 52) dX11_entries_52 (Nat.le_of_ble_eq_true rfl) ?_
      dsimp only [lsSt, List.set, mLs, mEnt]
      exfalso; omega
    · refine r_iload_n (pc := 14) dX11_entries_14 rfl ?_
      refine r_aload_n (pc := 15) dX11_entries_15 rfl (by first | rfl | exact isRefV_rf _) ?_
      refine r_iload_n (pc := 16) dX11_entries_16 rfl ?_
      refine r_callV1 (pc := 17) dX11_entries_17 qX11_isHeld kX11_119 vX11_isHeld (by exact isM.gx (by assumption)) rfl rfl (Nat.le_of_ble_eq_true rfl) (m_isHeld d hB hM (by omega) (by omega)) (fun v_17 h_17 q_17 => ?_)
      obtain ⟨rfl, rfl⟩ := q_17
      refine rj_if_eq (pc := 20) (tgt := 42) dX11_entries_20 (by decide) (by first | assumption | exact b01_r | exact bz_r | omega | (constructor <;> omega) | exact hM _ | exact hPo _ | exact hTa _ | exact hRo _) (fun c_20 => ?_) (fun c_20 => ?_)
      · try simp only [b01_0, bz_0, Classical.not_not] at c_20
        refine rj_iconst (pc := 42) dX11_entries_42 ?_
        refine rj_iadd (pc := 43) dX11_entries_43 ?_
        refine r_istore_n (pc := 44) dX11_entries_44 (Nat.le_of_ble_eq_true rfl) ?_
        dsimp only [lsSt, List.set, mLs, mEnt]
        refine rj_iinc (pc := 45) dX11_entries_45 (Nat.le_of_ble_eq_true rfl) rfl ?_
        dsimp only [lsSt, List.set, mLs, mEnt]
        refine r_goto (pc := 48) (tgt := 4) dX11_entries_48 (by decide) ?_
        have z := ih (t + 1) (by omega)
        rw [← cnt_f (by first | exact decide_eq_true (by (try simp only [n_open, n_held, n_ready, n_sc0, n_sc1, n_sc3, n_th1, n_fa] at *); omega) | exact decide_eq_false (by (try simp only [n_open, n_held, n_ready, n_sc0, n_sc1, n_sc3, n_th1, n_fa] at *); omega))] at z
        exact z
      · try simp only [b01_0, bz_0, Classical.not_not] at c_20
        refine r_aload_n (pc := 23) dX11_entries_23 rfl (by first | rfl | exact isRefV_rf _) ?_
        refine rm_getf (pc := 24) dX11_entries_24 fX11_11 (by assumption) rfl ?_
        refine r_iload_n (pc := 27) dX11_entries_27 rfl ?_
        refine rj_iconst (pc := 28) dX11_entries_28 ?_
        refine rj_iconst (pc := 29) dX11_entries_29 ?_
        refine r_callS3 (pc := 30) dX11_entries_30 qX11_ofThing kX11_54 sX11_ofThing (Nat.le_of_ble_eq_true rfl) (m_ofThing (d + 1)) (fun v_30 h_30 q_30 => ?_)
        obtain ⟨rfl, rfl⟩ := q_30
        refine rj_iald (pc := 33) dX11_entries_33 (by first | exact isM.g0 (by assumption) | exact isM.g3 (by assumption) | exact isM.g4 (by assumption) | exact isM.g8 (by assumption) | exact isM.g7 (by assumption) | exact isM.g6 (by assumption) | exact isM.g5 (by assumption) | exact isM.g1 (by assumption) | exact isM.g2 (by assumption)) (by first | assumption | exact b01_r | exact bz_r | omega | (constructor <;> omega) | exact hM _ | exact hPo _ | exact hTa _ | exact hRo _) (by first | assumption | exact b01_r | exact bz_r | omega | (constructor <;> omega) | exact hM _ | exact hPo _ | exact hTa _ | exact hRo _) (by first | assumption | exact b01_r | exact bz_r | omega | (constructor <;> omega) | exact hM _ | exact hPo _ | exact hTa _ | exact hRo _) rfl ?_
        refine r_iload_n (pc := 34) dX11_entries_34 rfl ?_
        refine rj_icmp_ne (pc := 35) (tgt := 42) dX11_entries_35 (by decide) (by first | assumption | exact b01_r | exact bz_r | omega | (constructor <;> omega) | exact hM _ | exact hPo _ | exact hTa _ | exact hRo _) (by first | assumption | exact b01_r | exact bz_r | omega | (constructor <;> omega) | exact hM _ | exact hPo _ | exact hTa _ | exact hRo _) (fun c_35 => ?_) (fun c_35 => ?_)
        · refine rj_iconst (pc := 42) dX11_entries_42 ?_
          refine rj_iadd (pc := 43) dX11_entries_43 ?_
          refine r_istore_n (pc := 44) dX11_entries_44 (Nat.le_of_ble_eq_true rfl) ?_
          dsimp only [lsSt, List.set, mLs, mEnt]
          refine rj_iinc (pc := 45) dX11_entries_45 (Nat.le_of_ble_eq_true rfl) rfl ?_
          dsimp only [lsSt, List.set, mLs, mEnt]
          refine r_goto (pc := 48) (tgt := 4) dX11_entries_48 (by decide) ?_
          have z := ih (t + 1) (by omega)
          rw [← cnt_f (by first | exact decide_eq_true (by (try simp only [n_open, n_held, n_ready, n_sc0, n_sc1, n_sc3, n_th1, n_fa] at *); omega) | exact decide_eq_false (by (try simp only [n_open, n_held, n_ready, n_sc0, n_sc1, n_sc3, n_th1, n_fa] at *); omega))] at z
          exact z
        · refine rj_iconst (pc := 38) dX11_entries_38 ?_
          refine r_goto (pc := 39) (tgt := 43) dX11_entries_39 (by decide) ?_
          refine rj_iadd (pc := 43) dX11_entries_43 ?_
          refine r_istore_n (pc := 44) dX11_entries_44 (Nat.le_of_ble_eq_true rfl) ?_
          dsimp only [lsSt, List.set, mLs, mEnt]
          refine rj_iinc (pc := 45) dX11_entries_45 (Nat.le_of_ble_eq_true rfl) rfl ?_
          dsimp only [lsSt, List.set, mLs, mEnt]
          refine r_goto (pc := 48) (tgt := 4) dX11_entries_48 (by decide) ?_
          have z := ih (t + 1) (by omega)
          rw [← cnt_t (by first | exact decide_eq_true (by (try simp only [n_open, n_held, n_ready, n_sc0, n_sc1, n_sc3, n_th1, n_fa] at *); omega) | exact decide_eq_false (by (try simp only [n_open, n_held, n_ready, n_sc0, n_sc1, n_sc3, n_th1, n_fa] at *); omega))] at z
          exact z
set_option maxHeartbeats 4000000 in
set_option maxRecDepth 100000 in
theorem m_entries {G : mG} {l : Launch} (d : Nat) {h : mH} {x s : Nat} {f4 f6 f8 f9 f10 f11 f12 f13 f14 f16 f18 : Int} {m kp was pool tape pln pap rwd rw : Nat → Int}(hB : isM h x (mFs x f4 f6 f8 f9 f10 f11 f12 f13 f14 f16 f18 s) m kp was pool tape pln pap rwd rw) (hM : ∀ q, InR (m q)) {N C : Nat} (hN : m 1 = (N : Int)) (hcap : N ≤ 90) (hC : m 0 = (C : Int)) (hC1 : 1 ≤ C) (hC2 : C ≤ 60) {a : Int} (ha : InR a) : RUNM G l (d + 2) mX11_entries [.ref x, .int (J a)] h (fun v h' => v = some (.int (J (entsN m a N C))) ∧ h' = h) := by
  refine RUNM.of (by decide +kernel) (Nat.le_of_ble_eq_true rfl) ?_
  refine rj_iconst (pc := 0) dX11_entries_0 ?_
  refine r_istore_n (pc := 1) dX11_entries_1 (Nat.le_of_ble_eq_true rfl) ?_
  dsimp only [lsSt, List.set, mLs, mEnt]
  refine rj_iconst (pc := 2) dX11_entries_2 ?_
  refine r_istore_n (pc := 3) dX11_entries_3 (Nat.le_of_ble_eq_true rfl) ?_
  dsimp only [lsSt, List.set, mLs, mEnt]
  exact L_entT d hB hM hN hcap hC hC1 hC2 ha N 0 (by omega)

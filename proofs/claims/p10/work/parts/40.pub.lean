/-! ===== contracts of the reference: counter, get, youngest, entry ===== -/
/-- an int as a long -/
noncomputable def lgV (z : Int) : Value := .long (J z).toInt64
def lgNo : Value := .long (-9223372036854775808)
noncomputable def counterV (m : Nat → Int) (k : Int) : Value := if 0 ≤ k ∧ k ≤ 7 then lgV (m (10 + k).toNat) else lgNo
set_option maxHeartbeats 4000000 in
set_option maxRecDepth 100000 in
theorem m_counter {G : mG} {l : Launch} (d : Nat) {h : mH} {x s : Nat} {f4 f6 f8 f9 f10 f11 f12 f13 f14 f16 f18 : Int} {m kp was pool tape pln pap rwd rw : Nat → Int}(hB : isM h x (mFs x f4 f6 f8 f9 f10 f11 f12 f13 f14 f16 f18 s) m kp was pool tape pln pap rwd rw) {k : Int} (hk : InR k) : RUNM G l (d + 1) mX11_counter [.ref x, .int (J k)] h (fun v h' => v = some (counterV m k) ∧ h' = h) := by
  dsimp only [mFs] at hB
  refine RUNM.of (by decide +kernel) (Nat.le_of_ble_eq_true rfl) ?_
  refine r_iload_n (pc := 0) dX11_counter_0 rfl ?_
  refine rj_iconst (pc := 1) dX11_counter_1 ?_
  refine rj_bipush (pc := 2) dX11_counter_2 (by decide +kernel) ?_
  refine r_callS3 (pc := 4) dX11_counter_4 qX11_isIn kX11_46 sX11_isIn (Nat.le_of_ble_eq_true rfl) (m_isIn d hk (by decide) (by decide)) (fun v_4 h_4 q_4 => ?_)
  obtain ⟨rfl, rfl⟩ := q_4
  refine rj_if_eq (pc := 7) (tgt := 23) dX11_counter_7 (by decide) (by first | assumption | exact b01_r | exact bz_r | omega | (constructor <;> omega) | exact hM _ | exact hPo _ | exact hTa _ | exact hRo _) (fun c_7 => ?_) (fun c_7 => ?_)
  · try simp only [b01_0, bz_0, Classical.not_not] at c_7
    refine r_ldc2 (pc := 23) dX11_counter_23 oX11_244 ?_
    refine r_lreturn (pc := 26) dX11_counter_26 rfl ?_
    first
    | exact ⟨by unfold counterV; rw [if_pos c_7]; rfl, rfl⟩
    | exact ⟨by unfold counterV; rw [if_neg c_7]; rfl, rfl⟩
  · try simp only [b01_0, bz_0, Classical.not_not] at c_7
    refine r_aload_n (pc := 10) dX11_counter_10 rfl (by first | rfl | exact isRefV_rf _) ?_
    refine rm_getf (pc := 11) dX11_counter_11 fX11_11 (by assumption) rfl ?_
    refine rj_bipush (pc := 14) dX11_counter_14 (by decide +kernel) ?_
    refine r_iload_n (pc := 16) dX11_counter_16 rfl ?_
    refine rj_iadd (pc := 17) dX11_counter_17 ?_
    refine rj_iald (pc := 18) (j := (10 + k).toNat) dX11_counter_18 (by first | exact isM.g0 (by assumption) | exact isM.g3 (by assumption) | exact isM.g4 (by assumption) | exact isM.g8 (by assumption) | exact isM.g7 (by assumption) | exact isM.g6 (by assumption) | exact isM.g5 (by assumption) | exact isM.g1 (by assumption) | exact isM.g2 (by assumption)) (by first | assumption | exact b01_r | exact bz_r | omega | (constructor <;> omega) | exact hM _ | exact hPo _ | exact hTa _ | exact hRo _) (by first | assumption | exact b01_r | exact bz_r | omega | (constructor <;> omega) | exact hM _ | exact hPo _ | exact hTa _ | exact hRo _) (by first | assumption | exact b01_r | exact bz_r | omega | (constructor <;> omega) | exact hM _ | exact hPo _ | exact hTa _ | exact hRo _) (by omega) ?_
    refine r_i2l (pc := 19) dX11_counter_19 ?_
    refine r_goto (pc := 20) (tgt := 26) dX11_counter_20 (by decide) ?_
    refine r_lreturn (pc := 26) dX11_counter_26 rfl ?_
    first
    | exact ⟨by unfold counterV; rw [if_pos c_7]; rfl, rfl⟩
    | exact ⟨by unfold counterV; rw [if_neg c_7]; rfl, rfl⟩
noncomputable def getV (rwd rw : Nat → Int) (a i : Int) : Value := if wrongV rwd a = 0 ∧ (0 ≤ i ∧ i ≤ rwd a.toNat - 1) then lgV (rw (40 * a + i).toNat) else lgNo
set_option maxHeartbeats 4000000 in
set_option maxRecDepth 100000 in
theorem m_get {G : mG} {l : Launch} (d : Nat) {h : mH} {x s : Nat} {f4 f6 f8 f9 f10 f11 f12 f13 f14 f16 f18 : Int} {m kp was pool tape pln pap rwd rw : Nat → Int}(hB : isM h x (mFs x f4 f6 f8 f9 f10 f11 f12 f13 f14 f16 f18 s) m kp was pool tape pln pap rwd rw) (hRo : ∀ q, InR (rwd q)) {a : Int} (ha : InR a) {i : Int} (hi : InR i) (h40 : ∀ q, rwd q ≤ 40) : RUNM G l (d + 3) mX11_get [.ref x, .int (J a), .int (J i)] h (fun v h' => v = some (getV rwd rw a i) ∧ h' = h) := by
  have hB0 := hB
  dsimp only [mFs] at hB
  refine RUNM.of (by decide +kernel) (Nat.le_of_ble_eq_true rfl) ?_
  refine r_aload_n (pc := 0) dX11_get_0 rfl (by first | rfl | exact isRefV_rf _) ?_
  refine r_iload_n (pc := 1) dX11_get_1 rfl ?_
  refine r_callV1 (pc := 2) dX11_get_2 qX11_wrong kX11_307 vX11_wrong (by exact isM.gx (by assumption)) rfl rfl (Nat.le_of_ble_eq_true rfl) (m_wrong d hB0 hRo ha) (fun v_2 h_2 q_2 => ?_)
  obtain ⟨rfl, rfl⟩ := q_2
  have wr := wrong_r (rwd := rwd) (a := a)
  refine rj_if_ne (pc := 5) (tgt := 24) dX11_get_5 (by decide) (by first | assumption | exact b01_r | exact bz_r | omega | (constructor <;> omega) | exact hM _ | exact hPo _ | exact hTa _ | exact hRo _) (fun c_5 => ?_) (fun c_5 => ?_)
  · try simp only [b01_0, bz_0, Classical.not_not] at c_5
    refine r_ldc2 (pc := 24) dX11_get_24 oX11_244 ?_
    refine r_goto (pc := 27) (tgt := 42) dX11_get_27 (by decide) ?_
    refine r_lreturn (pc := 42) dX11_get_42 rfl ?_
    first
    | exact ⟨by unfold getV; rw [if_pos ⟨c_5, c_21⟩]; rfl, rfl⟩
    | exact ⟨by unfold getV; rw [if_neg (fun g => c_5 g.1)]; rfl, rfl⟩
    | exact ⟨by unfold getV; rw [if_neg (fun g => c_21 g.2)]; rfl, rfl⟩
  · try simp only [b01_0, bz_0, Classical.not_not] at c_5
    have w0 := wrong_0 c_5
    have r4 := h40 a.toNat
    refine r_iload_n (pc := 8) dX11_get_8 rfl ?_
    refine rj_iconst (pc := 9) dX11_get_9 ?_
    refine r_aload_n (pc := 10) dX11_get_10 rfl (by first | rfl | exact isRefV_rf _) ?_
    refine rm_getf (pc := 11) dX11_get_11 fX11_36 (by assumption) rfl ?_
    refine r_iload_n (pc := 14) dX11_get_14 rfl ?_
    refine rj_iald (pc := 15) dX11_get_15 (by first | exact isM.g0 (by assumption) | exact isM.g3 (by assumption) | exact isM.g4 (by assumption) | exact isM.g8 (by assumption) | exact isM.g7 (by assumption) | exact isM.g6 (by assumption) | exact isM.g5 (by assumption) | exact isM.g1 (by assumption) | exact isM.g2 (by assumption)) (by first | assumption | exact b01_r | exact bz_r | omega | (constructor <;> omega) | exact hM _ | exact hPo _ | exact hTa _ | exact hRo _) (by first | assumption | exact b01_r | exact bz_r | omega | (constructor <;> omega) | exact hM _ | exact hPo _ | exact hTa _ | exact hRo _) (by first | assumption | exact b01_r | exact bz_r | omega | (constructor <;> omega) | exact hM _ | exact hPo _ | exact hTa _ | exact hRo _) rfl ?_
    refine rj_iconst (pc := 16) dX11_get_16 ?_
    refine rj_isub (pc := 17) dX11_get_17 ?_
    refine r_callS3 (pc := 18) dX11_get_18 qX11_isIn kX11_46 sX11_isIn (Nat.le_of_ble_eq_true rfl) (m_isIn (d + 2) hi (by decide) ⟨by omega, by omega⟩) (fun v_18 h_18 q_18 => ?_)
    obtain ⟨rfl, rfl⟩ := q_18
    refine rj_if_ne (pc := 21) (tgt := 30) dX11_get_21 (by decide) (by first | assumption | exact b01_r | exact bz_r | omega | (constructor <;> omega) | exact hM _ | exact hPo _ | exact hTa _ | exact hRo _) (fun c_21 => ?_) (fun c_21 => ?_)
    · try simp only [b01_0, bz_0, Classical.not_not] at c_21
      refine r_aload_n (pc := 30) dX11_get_30 rfl (by first | rfl | exact isRefV_rf _) ?_
      refine rm_getf (pc := 31) dX11_get_31 fX11_39 (by assumption) rfl ?_
      refine rj_bipush (pc := 34) dX11_get_34 (by decide +kernel) ?_
      refine r_iload_n (pc := 36) dX11_get_36 rfl ?_
      refine rj_imul (pc := 37) dX11_get_37 ?_
      refine r_iload_n (pc := 38) dX11_get_38 rfl ?_
      refine rj_iadd (pc := 39) dX11_get_39 ?_
      refine rj_iald (pc := 40) (j := (40 * a + i).toNat) dX11_get_40 (by first | exact isM.g0 (by assumption) | exact isM.g3 (by assumption) | exact isM.g4 (by assumption) | exact isM.g8 (by assumption) | exact isM.g7 (by assumption) | exact isM.g6 (by assumption) | exact isM.g5 (by assumption) | exact isM.g1 (by assumption) | exact isM.g2 (by assumption)) (by first | assumption | exact b01_r | exact bz_r | omega | (constructor <;> omega) | exact hM _ | exact hPo _ | exact hTa _ | exact hRo _) (by first | assumption | exact b01_r | exact bz_r | omega | (constructor <;> omega) | exact hM _ | exact hPo _ | exact hTa _ | exact hRo _) (by first | assumption | exact b01_r | exact bz_r | omega | (constructor <;> omega) | exact hM _ | exact hPo _ | exact hTa _ | exact hRo _) (by omega) ?_
      refine r_i2l (pc := 41) dX11_get_41 ?_
      refine r_lreturn (pc := 42) dX11_get_42 rfl ?_
      first
      | exact ⟨by unfold getV; rw [if_pos ⟨c_5, c_21⟩]; rfl, rfl⟩
      | exact ⟨by unfold getV; rw [if_neg (fun g => c_5 g.1)]; rfl, rfl⟩
      | exact ⟨by unfold getV; rw [if_neg (fun g => c_21 g.2)]; rfl, rfl⟩
    · try simp only [b01_0, bz_0, Classical.not_not] at c_21
      refine r_ldc2 (pc := 24) dX11_get_24 oX11_244 ?_
      refine r_goto (pc := 27) (tgt := 42) dX11_get_27 (by decide) ?_
      refine r_lreturn (pc := 42) dX11_get_42 rfl ?_
      first
      | exact ⟨by unfold getV; rw [if_pos ⟨c_5, c_21⟩]; rfl, rfl⟩
      | exact ⟨by unfold getV; rw [if_neg (fun g => c_5 g.1)]; rfl, rfl⟩
      | exact ⟨by unfold getV; rw [if_neg (fun g => c_21 g.2)]; rfl, rfl⟩
def ygL (m : Nat → Int) (C : Nat) (a : Int) : Nat → Nat → Int → Int
  | 0, _, f => f
  | n + 1, t, f => ygL m C a n (t + 1) (if heldInB m C a t = true then (t : Int) else f)
def youngV (m : Nat → Int) (N C : Nat) (a : Int) : Int := if 0 ≤ a ∧ a ≤ m 0 - 1 then ygL m C a N 0 (-5) else -1
set_option maxHeartbeats 4000000 in
set_option maxRecDepth 100000 in
theorem L_youngest {G : mG} {l : Launch} (d : Nat) {h : mH} {x s : Nat} {f4 f6 f8 f9 f10 f11 f12 f13 f14 f16 f18 : Int} {m kp was pool tape pln pap rwd rw : Nat → Int}(hB : isM h x (mFs x f4 f6 f8 f9 f10 f11 f12 f13 f14 f16 f18 s) m kp was pool tape pln pap rwd rw) (hM : ∀ q, InR (m q)) {N C : Nat} (hN : m 1 = (N : Int)) (hcap : N ≤ 90) (hC : m 0 = (C : Int)) (hC2 : C ≤ 60) (hP : parOk m C) (hO : ownOk m N C) {a : Int} (ha : InR a) : ∀ (n t : Nat) (f : Int), t + n = N → RUN G l (d + 3) mX11_youngest 15 [some (.ref x), some (.int (J a)), some (.int (J f)), some (.int (J (t : Int)))] [] h (fun v h' => v = some (.int (J (ygL m C a n t f))) ∧ h' = h) := by
  dsimp only [mFs] at hB
  have r1 := hM 1
  intro n
  induction n with
  | zero =>
    intro t f ht
    refine r_iload_n (pc := 15) dX11_youngest_15 rfl ?_
    refine r_aload_n (pc := 16) dX11_youngest_16 rfl (by first | rfl | exact isRefV_rf _) ?_
    refine rm_getf (pc := 17) dX11_youngest_17 fX11_11 (by assumption) rfl ?_
    refine rj_iconst (pc := 20) dX11_youngest_20 ?_
    refine rj_iald (pc := 21) (j := 1) dX11_youngest_21 (by first | exact isM.g0 (by assumption) | exact isM.g3 (by assumption) | exact isM.g4 (by assumption) | exact isM.g8 (by assumption) | exact isM.g7 (by assumption) | exact isM.g6 (by assumption) | exact isM.g5 (by assumption) | exact isM.g1 (by assumption) | exact isM.g2 (by assumption)) (by first | assumption | exact b01_r | exact bz_r | omega | (constructor <;> omega) | exact hM _ | exact hPo _ | exact hTa _ | exact hRo _) (by first | assumption | exact b01_r | exact bz_r | omega | (constructor <;> omega) | exact hM _ | exact hPo _ | exact hTa _ | exact hRo _) (by first | assumption | exact b01_r | exact bz_r | omega | (constructor <;> omega) | exact hM _ | exact hPo _ | exact hTa _ | exact hRo _) rfl ?_
    refine rj_icmp_ge (pc := 22) (tgt := 60) dX11_youngest_22 (by decide) (by first | assumption | exact b01_r | exact bz_r | omega | (constructor <;> omega) | exact hM _ | exact hPo _ | exact hTa _ | exact hRo _) (by first | assumption | exact b01_r | exact bz_r | omega | (constructor <;> omega) | exact hM _ | exact hPo _ | exact hTa _ | exact hRo _) (fun c_22 => ?_) (fun c_22 => ?_)
    · refine r_iload_n (pc := 60) dX11_youngest_60 rfl ?_
      refine r_ireturn (pc := 61) .int dX11_youngest_61 rfl (by first | rfl | assumption) ?_
      exact ⟨rfl, rfl⟩
    · exfalso; omega
  | succ n ih =>
    intro t f ht
    refine r_iload_n (pc := 15) dX11_youngest_15 rfl ?_
    refine r_aload_n (pc := 16) dX11_youngest_16 rfl (by first | rfl | exact isRefV_rf _) ?_
    refine rm_getf (pc := 17) dX11_youngest_17 fX11_11 (by assumption) rfl ?_
    refine rj_iconst (pc := 20) dX11_youngest_20 ?_
    refine rj_iald (pc := 21) (j := 1) dX11_youngest_21 (by first | exact isM.g0 (by assumption) | exact isM.g3 (by assumption) | exact isM.g4 (by assumption) | exact isM.g8 (by assumption) | exact isM.g7 (by assumption) | exact isM.g6 (by assumption) | exact isM.g5 (by assumption) | exact isM.g1 (by assumption) | exact isM.g2 (by assumption)) (by first | assumption | exact b01_r | exact bz_r | omega | (constructor <;> omega) | exact hM _ | exact hPo _ | exact hTa _ | exact hRo _) (by first | assumption | exact b01_r | exact bz_r | omega | (constructor <;> omega) | exact hM _ | exact hPo _ | exact hTa _ | exact hRo _) (by first | assumption | exact b01_r | exact bz_r | omega | (constructor <;> omega) | exact hM _ | exact hPo _ | exact hTa _ | exact hRo _) rfl ?_
    refine rj_icmp_ge (pc := 22) (tgt := 60) dX11_youngest_22 (by decide) (by first | assumption | exact b01_r | exact bz_r | omega | (constructor <;> omega) | exact hM _ | exact hPo _ | exact hTa _ | exact hRo _) (by first | assumption | exact b01_r | exact bz_r | omega | (constructor <;> omega) | exact hM _ | exact hPo _ | exact hTa _ | exact hRo _) (fun c_22 => ?_) (fun c_22 => ?_)
    · refine r_iload_n (pc := 60) dX11_youngest_60 rfl ?_
      refine r_ireturn (pc := 61) .int dX11_youngest_61 rfl (by first | rfl | assumption) ?_
      exfalso; omega
    · refine r_aload_n (pc := 25) dX11_youngest_25 rfl (by first | rfl | exact isRefV_rf _) ?_
      refine r_iload_n (pc := 26) dX11_youngest_26 rfl ?_
      refine r_callV1 (pc := 27) dX11_youngest_27 qX11_isHeld kX11_119 vX11_isHeld (by exact isM.gx (by assumption)) rfl rfl (Nat.le_of_ble_eq_true rfl) (m_isHeld (d + 1) hB hM (by omega) (by omega)) (fun v_27 h_27 q_27 => ?_)
      obtain ⟨rfl, rfl⟩ := q_27
      refine rj_if_eq (pc := 30) (tgt := 54) dX11_youngest_30 (by decide) (by first | assumption | exact b01_r | exact bz_r | omega | (constructor <;> omega) | exact hM _ | exact hPo _ | exact hTa _ | exact hRo _) (fun c_30 => ?_) (fun c_30 => ?_)
      · try simp only [b01_0, bz_0, Classical.not_not] at c_30
        refine rj_iinc (pc := 54) dX11_youngest_54 (Nat.le_of_ble_eq_true rfl) rfl ?_
        dsimp only [lsSt, List.set, mLs, mEnt]
        refine r_goto (pc := 57) (tgt := 15) dX11_youngest_57 (by decide) ?_
        have z := ih (t + 1) f (by omega)
        rw [ygL, if_neg (by simp only [n_held] at *; unfold heldInB heldB; simp [c_30])]
        exact z
      · try simp only [b01_0, bz_0, Classical.not_not] at c_30
        refine r_aload_n (pc := 33) dX11_youngest_33 rfl (by first | rfl | exact isRefV_rf _) ?_
        refine r_aload_n (pc := 34) dX11_youngest_34 rfl (by first | rfl | exact isRefV_rf _) ?_
        refine rm_getf (pc := 35) dX11_youngest_35 fX11_11 (by assumption) rfl ?_
        refine r_iload_n (pc := 38) dX11_youngest_38 rfl ?_
        refine rj_iconst (pc := 39) dX11_youngest_39 ?_
        refine rj_iconst (pc := 40) dX11_youngest_40 ?_
        refine r_callS3 (pc := 41) dX11_youngest_41 qX11_ofThing kX11_54 sX11_ofThing (Nat.le_of_ble_eq_true rfl) (m_ofThing (d + 2)) (fun v_41 h_41 q_41 => ?_)
        obtain ⟨rfl, rfl⟩ := q_41
        refine rj_iald (pc := 44) (j := 259 + 14 * t) dX11_youngest_44 (by first | exact isM.g0 (by assumption) | exact isM.g3 (by assumption) | exact isM.g4 (by assumption) | exact isM.g8 (by assumption) | exact isM.g7 (by assumption) | exact isM.g6 (by assumption) | exact isM.g5 (by assumption) | exact isM.g1 (by assumption) | exact isM.g2 (by assumption)) (by first | assumption | exact b01_r | exact bz_r | omega | (constructor <;> omega) | exact hM _ | exact hPo _ | exact hTa _ | exact hRo _) (by first | assumption | exact b01_r | exact bz_r | omega | (constructor <;> omega) | exact hM _ | exact hPo _ | exact hTa _ | exact hRo _) (by first | assumption | exact b01_r | exact bz_r | omega | (constructor <;> omega) | exact hM _ | exact hPo _ | exact hTa _ | exact hRo _) (by omega) ?_
        refine r_iload_n (pc := 45) dX11_youngest_45 rfl ?_
        refine r_callV2 (pc := 46) dX11_youngest_46 qX11_isBelow kX11_246 vX11_isBelow (by exact isM.gx (by assumption)) rfl rfl (Nat.le_of_ble_eq_true rfl) (m_isBelow (d + 1) hB hC2 hP ha (by have := hO t (by omega); omega) (by have := hO t (by omega); omega)) (fun v_46 h_46 q_46 => ?_)
        obtain ⟨rfl, rfl⟩ := q_46
        refine rj_if_eq (pc := 49) (tgt := 54) dX11_youngest_49 (by decide) (by first | assumption | exact b01_r | exact bz_r | omega | (constructor <;> omega) | exact hM _ | exact hPo _ | exact hTa _ | exact hRo _) (fun c_49 => ?_) (fun c_49 => ?_)
        · try simp only [b01_0, bz_0, Classical.not_not] at c_49
          refine rj_iinc (pc := 54) dX11_youngest_54 (Nat.le_of_ble_eq_true rfl) rfl ?_
          dsimp only [lsSt, List.set, mLs, mEnt]
          refine r_goto (pc := 57) (tgt := 15) dX11_youngest_57 (by decide) ?_
          have z := ih (t + 1) f (by omega)
          rw [ygL, if_neg (by simp only [n_held] at *; unfold heldInB heldB; simp [c_49])]
          exact z
        · try simp only [b01_0, bz_0, Classical.not_not] at c_49
          refine r_iload_n (pc := 52) dX11_youngest_52 rfl ?_
          refine r_istore_n (pc := 53) dX11_youngest_53 (Nat.le_of_ble_eq_true rfl) ?_
          dsimp only [lsSt, List.set, mLs, mEnt]
          refine rj_iinc (pc := 54) dX11_youngest_54 (Nat.le_of_ble_eq_true rfl) rfl ?_
          dsimp only [lsSt, List.set, mLs, mEnt]
          refine r_goto (pc := 57) (tgt := 15) dX11_youngest_57 (by decide) ?_
          have z := ih (t + 1) (t : Int) (by omega)
          rw [ygL, if_pos (by simp only [n_held] at *; unfold heldInB heldB; simp [c_30, c_49])]
          exact z
set_option maxHeartbeats 4000000 in
set_option maxRecDepth 100000 in
theorem m_youngest {G : mG} {l : Launch} (d : Nat) {h : mH} {x s : Nat} {f4 f6 f8 f9 f10 f11 f12 f13 f14 f16 f18 : Int} {m kp was pool tape pln pap rwd rw : Nat → Int}(hB : isM h x (mFs x f4 f6 f8 f9 f10 f11 f12 f13 f14 f16 f18 s) m kp was pool tape pln pap rwd rw) (hM : ∀ q, InR (m q)) {N C : Nat} (hN : m 1 = (N : Int)) (hcap : N ≤ 90) (hC : m 0 = (C : Int)) (hC2 : C ≤ 60) (hP : parOk m C) (hO : ownOk m N C) {a : Int} (ha : InR a) : RUNM G l (d + 3) mX11_youngest [.ref x, .int (J a)] h (fun v h' => v = some (.int (J (youngV m N C a))) ∧ h' = h) := by
  have hB0 := hB
  dsimp only [mFs] at hB
  refine RUNM.of (by decide +kernel) (Nat.le_of_ble_eq_true rfl) ?_
  have r0 := hM 0
  refine r_aload_n (pc := 0) dX11_youngest_0 rfl (by first | rfl | exact isRefV_rf _) ?_
  refine r_iload_n (pc := 1) dX11_youngest_1 rfl ?_
  refine r_callV1 (pc := 2) dX11_youngest_2 qX11_isScope kX11_50 vX11_isScope (by exact isM.gx (by assumption)) rfl rfl (Nat.le_of_ble_eq_true rfl) (m_isScope (d + 1) hB ha ⟨by omega, by omega⟩) (fun v_2 h_2 q_2 => ?_)
  obtain ⟨rfl, rfl⟩ := q_2
  refine rj_if_ne (pc := 5) (tgt := 10) dX11_youngest_5 (by decide) (by first | assumption | exact b01_r | exact bz_r | omega | (constructor <;> omega) | exact hM _ | exact hPo _ | exact hTa _ | exact hRo _) (fun c_5 => ?_) (fun c_5 => ?_)
  · try simp only [b01_0, bz_0, Classical.not_not] at c_5
    refine rj_bipush (pc := 10) dX11_youngest_10 (by decide +kernel) ?_
    refine r_istore_n (pc := 12) dX11_youngest_12 (Nat.le_of_ble_eq_true rfl) ?_
    dsimp only [lsSt, List.set, mLs, mEnt]
    refine rj_iconst (pc := 13) dX11_youngest_13 ?_
    refine r_istore_n (pc := 14) dX11_youngest_14 (Nat.le_of_ble_eq_true rfl) ?_
    dsimp only [lsSt, List.set, mLs, mEnt]
    have z := L_youngest (G := G) (l := l) d hB0 hM hN hcap hC hC2 hP hO ha N 0 (-5) (by omega)
    unfold youngV
    rw [if_pos c_5]
    exact z
  · try simp only [b01_0, bz_0, Classical.not_not] at c_5
    refine rj_iconst (pc := 8) dX11_youngest_8 ?_
    refine r_ireturn (pc := 9) .int dX11_youngest_9 rfl (by first | rfl | assumption) ?_
    exact ⟨by unfold youngV; rw [if_neg c_5], rfl⟩

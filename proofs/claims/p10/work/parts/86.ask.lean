/-! ===== the class: what its world answers, second half ===== -/
set_option maxHeartbeats 4000000 in
set_option maxRecDepth 100000 in
theorem cn_nameOf {G : mG} {l : Launch} (d : Nat) {h : mH} {w : Nat} {c : Nat → Int} {C : Nat → Nat → Int} {nm : Nat → Int64} {g : Nat → Option Nat} (hW : isW h w c C nm g) (hc : ∀ q, InR (c q)) {t : Nat} (ht : (t : Int) < c 0) (h2 : t < 90) : RUNM G l (d + 1) mX9_nameOf [.ref w, .int (J (t : Int))] h (fun v h' => v = some (.long (nm t)) ∧ h' = h) := by
  refine RUNM.of (by decide +kernel) (Nat.le_of_ble_eq_true rfl) ?_
  have r0 := hc 0
  refine r_aload_n (pc := 0) dX9_nameOf_0 rfl (by first | rfl | exact isRefV_rf _) ?_
  refine r_iload_n (pc := 1) dX9_nameOf_1 rfl ?_
  refine r_callV1 (pc := 2) dX9_nameOf_2 qX9_thingAt kX9_96 vX9_thingAt (by first | assumption | exact isI.gx (by assumption) | exact isI.gc (by assumption) | exact isW.gx (by assumption) | exact isW.gF (by assumption) | exact isW.gT (by assumption) (by omega) | exact isW.gS (by assumption) (by omega) | exact isW.gK (by assumption) (by omega) | exact isW.g1 (by assumption) | exact isW.g2 (by assumption) | exact isW.g3 (by assumption) | exact isI.gx (isW.i0 (by assumption)) | exact isI.gc (isW.i0 (by assumption)) | exact isI.gx (isW.i1 (by assumption)) | exact isI.gc (isW.i1 (by assumption)) | exact isI.gx (isW.i2 (by assumption)) | exact isI.gc (isW.i2 (by assumption)) | exact isI.gx (isW.i3 (by assumption)) | exact isI.gc (isW.i3 (by assumption)) | exact isI.gx (isW.i4 (by assumption)) | exact isI.gc (isW.i4 (by assumption)) | exact isI.gx (isW.i5 (by assumption)) | exact isI.gc (isW.i5 (by assumption)) | exact isR.gx (by assumption) | exact isRd.gx (by assumption) | exact isSp.gx (by assumption) | exact isI.gx (isR.i (by assumption)) | exact isI.gx (isRd.i (by assumption)) | exact isI.gc (isRd.i (by assumption)) | exact isI.gx (isSp.i (by assumption)) | exact isW.gx (isR.w (by assumption)) | exact isW.gF (isR.w (by assumption)) | fail "no such object") rfl rfl (Nat.le_of_ble_eq_true rfl) (cw_thingAt _ hW hc (i := (t : Int)) ⟨by omega, by omega⟩) (fun v_2 h_2 q_2 => ?_)
  obtain ⟨q1_2, rfl⟩ := q_2
  · obtain rfl := thAt_P (by omega) q1_2
    refine r_astore_n (pc := 5) dX9_nameOf_5 (Nat.le_of_ble_eq_true rfl) (by first | rfl | exact isRefV_rf _) ?_
    dsimp only [lsSt, List.set, mLs, mEnt]
    refine r_aload_n (pc := 6) dX9_nameOf_6 rfl (by first | rfl | exact isRefV_rf _) ?_
    refine r_ifnonnull (pc := 7) (tgt := 14) dX9_nameOf_7 (by decide) (by first | rfl | exact isRefV_rf _) (fun a_7 c_7 => ?_) (fun c_7 => by cases c_7)
    refine r_aload_n (pc := 14) dX9_nameOf_14 rfl (by first | rfl | exact isRefV_rf _) ?_
    rw [show ((t : Int)).toNat = t by omega]
    refine r_getf (pc := 15) dX9_nameOf_15 fX9_106 (isW.gT (by assumption) (q := t) (by omega)) (by rfl) ?_
    refine r_lreturn (pc := 18) dX9_nameOf_18 rfl ?_
    exact ⟨rfl, rfl⟩
def haB (c : Nat → Int) (nm : Nat → Int64) (y : Int64) (t : Nat) : Bool := decide (c (32 + 3 * t) = 0 ∧ (nm t).toInt < y.toInt)
set_option maxHeartbeats 4000000 in
set_option maxRecDepth 100000 in
theorem L_heldAhead {G : mG} {l : Launch} (d : Nat) {h : mH} {w : Nat} {c : Nat → Int} {C : Nat → Nat → Int} {nm : Nat → Int64} {g : Nat → Option Nat} (hW : isW h w c C nm g) (hc : ∀ q, InR (c q)) {N : Nat} (hN : c 0 = (N : Int)) (hcap : N ≤ 90) {y : Int64} : ∀ k t : Nat, t + k = N → RUN G l (d + 2) mX9_heldAhead 5 [some (.ref w), some (.long y), none, some (.int (J (cnt (haB c nm y) t))), some (.int (J (t : Int)))] [] h (fun v h' => v = some (.int (J (cnt (haB c nm y) N))) ∧ h' = h) := by
  intro k
  induction k with
  | zero =>
    intro t ht
    refine r_iload (pc := 5) dX9_heldAhead_5 rfl ?_
    refine r_aload_n (pc := 7) dX9_heldAhead_7 rfl (by first | rfl | exact isRefV_rf _) ?_
    refine r_getf (pc := 8) dX9_heldAhead_8 fX9_71 (by first | assumption | exact isI.gx (by assumption) | exact isI.gc (by assumption) | exact isW.gx (by assumption) | exact isW.gF (by assumption) | exact isW.gT (by assumption) (by omega) | exact isW.gS (by assumption) (by omega) | exact isW.gK (by assumption) (by omega) | exact isW.g1 (by assumption) | exact isW.g2 (by assumption) | exact isW.g3 (by assumption) | exact isI.gx (isW.i0 (by assumption)) | exact isI.gc (isW.i0 (by assumption)) | exact isI.gx (isW.i1 (by assumption)) | exact isI.gc (isW.i1 (by assumption)) | exact isI.gx (isW.i2 (by assumption)) | exact isI.gc (isW.i2 (by assumption)) | exact isI.gx (isW.i3 (by assumption)) | exact isI.gc (isW.i3 (by assumption)) | exact isI.gx (isW.i4 (by assumption)) | exact isI.gc (isW.i4 (by assumption)) | exact isI.gx (isW.i5 (by assumption)) | exact isI.gc (isW.i5 (by assumption)) | exact isR.gx (by assumption) | exact isRd.gx (by assumption) | exact isSp.gx (by assumption) | exact isI.gx (isR.i (by assumption)) | exact isI.gx (isRd.i (by assumption)) | exact isI.gc (isRd.i (by assumption)) | exact isI.gx (isSp.i (by assumption)) | exact isW.gx (isR.w (by assumption)) | exact isW.gF (isR.w (by assumption)) | fail "no such object") (by rfl) ?_
    refine rj_icmp_ge (pc := 11) (tgt := 43) dX9_heldAhead_11 (by decide) (by first | exact b01_r | exact bz_r | omega | (constructor <;> omega) | apply_assumption | (apply atF_r; assumption) | fail "no range") (by first | exact b01_r | exact bz_r | omega | (constructor <;> omega) | apply_assumption | (apply atF_r; assumption) | fail "no range") (fun c_11 => ?_) (fun c_11 => ?_)
    · refine r_iload_n (pc := 43) dX9_heldAhead_43 rfl ?_
      refine r_ireturn (pc := 44) .int dX9_heldAhead_44 rfl (by first | rfl | assumption) ?_
      obtain rfl : t = N := by omega
      exact ⟨rfl, rfl⟩
    · exfalso; omega
  | succ k ih =>
    intro t ht
    refine r_iload (pc := 5) dX9_heldAhead_5 rfl ?_
    refine r_aload_n (pc := 7) dX9_heldAhead_7 rfl (by first | rfl | exact isRefV_rf _) ?_
    refine r_getf (pc := 8) dX9_heldAhead_8 fX9_71 (by first | assumption | exact isI.gx (by assumption) | exact isI.gc (by assumption) | exact isW.gx (by assumption) | exact isW.gF (by assumption) | exact isW.gT (by assumption) (by omega) | exact isW.gS (by assumption) (by omega) | exact isW.gK (by assumption) (by omega) | exact isW.g1 (by assumption) | exact isW.g2 (by assumption) | exact isW.g3 (by assumption) | exact isI.gx (isW.i0 (by assumption)) | exact isI.gc (isW.i0 (by assumption)) | exact isI.gx (isW.i1 (by assumption)) | exact isI.gc (isW.i1 (by assumption)) | exact isI.gx (isW.i2 (by assumption)) | exact isI.gc (isW.i2 (by assumption)) | exact isI.gx (isW.i3 (by assumption)) | exact isI.gc (isW.i3 (by assumption)) | exact isI.gx (isW.i4 (by assumption)) | exact isI.gc (isW.i4 (by assumption)) | exact isI.gx (isW.i5 (by assumption)) | exact isI.gc (isW.i5 (by assumption)) | exact isR.gx (by assumption) | exact isRd.gx (by assumption) | exact isSp.gx (by assumption) | exact isI.gx (isR.i (by assumption)) | exact isI.gx (isRd.i (by assumption)) | exact isI.gc (isRd.i (by assumption)) | exact isI.gx (isSp.i (by assumption)) | exact isW.gx (isR.w (by assumption)) | exact isW.gF (isR.w (by assumption)) | fail "no such object") (by rfl) ?_
    refine rj_icmp_ge (pc := 11) (tgt := 43) dX9_heldAhead_11 (by decide) (by first | exact b01_r | exact bz_r | omega | (constructor <;> omega) | apply_assumption | (apply atF_r; assumption) | fail "no range") (by first | exact b01_r | exact bz_r | omega | (constructor <;> omega) | apply_assumption | (apply atF_r; assumption) | fail "no range") (fun c_11 => ?_) (fun c_11 => ?_)
    · refine r_iload_n (pc := 43) dX9_heldAhead_43 rfl ?_
      refine r_ireturn (pc := 44) .int dX9_heldAhead_44 rfl (by first | rfl | assumption) ?_
      exfalso; omega
    · refine r_aload_n (pc := 14) dX9_heldAhead_14 rfl (by first | rfl | exact isRefV_rf _) ?_
      refine r_iload (pc := 15) dX9_heldAhead_15 rfl ?_
      refine r_callV1 (pc := 17) dX9_heldAhead_17 qX9_isHeld kX9_157 vX9_isHeld (by first | assumption | exact isI.gx (by assumption) | exact isI.gc (by assumption) | exact isW.gx (by assumption) | exact isW.gF (by assumption) | exact isW.gT (by assumption) (by omega) | exact isW.gS (by assumption) (by omega) | exact isW.gK (by assumption) (by omega) | exact isW.g1 (by assumption) | exact isW.g2 (by assumption) | exact isW.g3 (by assumption) | exact isI.gx (isW.i0 (by assumption)) | exact isI.gc (isW.i0 (by assumption)) | exact isI.gx (isW.i1 (by assumption)) | exact isI.gc (isW.i1 (by assumption)) | exact isI.gx (isW.i2 (by assumption)) | exact isI.gc (isW.i2 (by assumption)) | exact isI.gx (isW.i3 (by assumption)) | exact isI.gc (isW.i3 (by assumption)) | exact isI.gx (isW.i4 (by assumption)) | exact isI.gc (isW.i4 (by assumption)) | exact isI.gx (isW.i5 (by assumption)) | exact isI.gc (isW.i5 (by assumption)) | exact isR.gx (by assumption) | exact isRd.gx (by assumption) | exact isSp.gx (by assumption) | exact isI.gx (isR.i (by assumption)) | exact isI.gx (isRd.i (by assumption)) | exact isI.gc (isRd.i (by assumption)) | exact isI.gx (isSp.i (by assumption)) | exact isW.gx (isR.w (by assumption)) | exact isW.gF (isR.w (by assumption)) | fail "no such object") rfl rfl (Nat.le_of_ble_eq_true rfl) (cn_isHeld (d) hW hc (t := t) (by omega) (by omega)) (fun v_17 h_17 q_17 => ?_)
      obtain ⟨rfl, rfl⟩ := q_17
      refine rj_if_eq (pc := 20) (tgt := 37) dX9_heldAhead_20 (by decide) (by first | exact b01_r | exact bz_r | omega | (constructor <;> omega) | apply_assumption | (apply atF_r; assumption) | fail "no range") (fun c_20 => ?_) (fun c_20 => ?_)
      · try simp only [b01_0, bz_0, Classical.not_not] at c_20
        refine rj_iinc (pc := 37) dX9_heldAhead_37 (Nat.le_of_ble_eq_true rfl) rfl ?_
        dsimp only [lsSt, List.set, mLs, mEnt]
        refine r_goto (pc := 40) (tgt := 5) dX9_heldAhead_40 (by decide) ?_
        have z := ih (t + 1) (by omega)
        rw [show ((t + 1 : Nat) : Int) = (t : Int) + 1 by omega] at z
        rw [← cnt_f (p := haB c nm y) (n := t) (decide_eq_false (fun g => c_20 g.1))] at z
        rw [Int.add_zero] at z
        exact z
      · try simp only [b01_0, bz_0, Classical.not_not] at c_20
        refine r_aload_n (pc := 23) dX9_heldAhead_23 rfl (by first | rfl | exact isRefV_rf _) ?_
        refine r_iload (pc := 24) dX9_heldAhead_24 rfl ?_
        refine r_callV1 (pc := 26) dX9_heldAhead_26 qX9_nameOf kX9_168 vX9_nameOf (by first | assumption | exact isI.gx (by assumption) | exact isI.gc (by assumption) | exact isW.gx (by assumption) | exact isW.gF (by assumption) | exact isW.gT (by assumption) (by omega) | exact isW.gS (by assumption) (by omega) | exact isW.gK (by assumption) (by omega) | exact isW.g1 (by assumption) | exact isW.g2 (by assumption) | exact isW.g3 (by assumption) | exact isI.gx (isW.i0 (by assumption)) | exact isI.gc (isW.i0 (by assumption)) | exact isI.gx (isW.i1 (by assumption)) | exact isI.gc (isW.i1 (by assumption)) | exact isI.gx (isW.i2 (by assumption)) | exact isI.gc (isW.i2 (by assumption)) | exact isI.gx (isW.i3 (by assumption)) | exact isI.gc (isW.i3 (by assumption)) | exact isI.gx (isW.i4 (by assumption)) | exact isI.gc (isW.i4 (by assumption)) | exact isI.gx (isW.i5 (by assumption)) | exact isI.gc (isW.i5 (by assumption)) | exact isR.gx (by assumption) | exact isRd.gx (by assumption) | exact isSp.gx (by assumption) | exact isI.gx (isR.i (by assumption)) | exact isI.gx (isRd.i (by assumption)) | exact isI.gc (isRd.i (by assumption)) | exact isI.gx (isSp.i (by assumption)) | exact isW.gx (isR.w (by assumption)) | exact isW.gF (isR.w (by assumption)) | fail "no such object") rfl rfl (Nat.le_of_ble_eq_true rfl) (cn_nameOf (d) hW hc (t := t) (by omega) (by omega)) (fun v_26 h_26 q_26 => ?_)
        obtain ⟨rfl, rfl⟩ := q_26
        refine r_lload_n (pc := 29) dX9_heldAhead_29 rfl ?_
        refine rj_lcmpE (pc := 30) dX9_heldAhead_30 ?_
        have rr := lcV_r (x := nm t) (y := y)
        refine rj_if_ge (pc := 31) (tgt := 37) dX9_heldAhead_31 (by decide) (by first | exact b01_r | exact bz_r | omega | (constructor <;> omega) | apply_assumption | (apply atF_r; assumption) | fail "no range") (fun c_31 => ?_) (fun c_31 => ?_)
        · refine rj_iinc (pc := 37) dX9_heldAhead_37 (Nat.le_of_ble_eq_true rfl) rfl ?_
          dsimp only [lsSt, List.set, mLs, mEnt]
          refine r_goto (pc := 40) (tgt := 5) dX9_heldAhead_40 (by decide) ?_
          have z := ih (t + 1) (by omega)
          rw [show ((t + 1 : Nat) : Int) = (t : Int) + 1 by omega] at z
          rw [← cnt_f (p := haB c nm y) (n := t) (decide_eq_false (fun g => absurd (lcV_n.mpr g.2) (by omega)))] at z
          rw [Int.add_zero] at z
          exact z
        · refine rj_iinc (pc := 34) dX9_heldAhead_34 (Nat.le_of_ble_eq_true rfl) rfl ?_
          dsimp only [lsSt, List.set, mLs, mEnt]
          refine rj_iinc (pc := 37) dX9_heldAhead_37 (Nat.le_of_ble_eq_true rfl) rfl ?_
          dsimp only [lsSt, List.set, mLs, mEnt]
          refine r_goto (pc := 40) (tgt := 5) dX9_heldAhead_40 (by decide) ?_
          have z := ih (t + 1) (by omega)
          rw [show ((t + 1 : Nat) : Int) = (t : Int) + 1 by omega] at z
          rw [← cnt_t (p := haB c nm y) (n := t) (decide_eq_true (⟨c_20, lcV_n.mp (by omega)⟩))] at z
          exact z
set_option maxHeartbeats 4000000 in
set_option maxRecDepth 100000 in
theorem cq_heldAhead {G : mG} {l : Launch} (d : Nat) {h : mH} {w : Nat} {c : Nat → Int} {C : Nat → Nat → Int} {nm : Nat → Int64} {g : Nat → Option Nat} (hW : isW h w c C nm g) (hc : ∀ q, InR (c q)) {N : Nat} (hN : c 0 = (N : Int)) (hcap : N ≤ 90) {y : Int64} : RUNM G l (d + 2) mX9_heldAhead [.ref w, .long y] h (fun v h' => v = some (.int (J (cnt (haB c nm y) N))) ∧ h' = h) := by
  refine RUNM.of (by decide +kernel) (Nat.le_of_ble_eq_true rfl) ?_
  refine rj_iconst (pc := 0) dX9_heldAhead_0 ?_
  refine r_istore_n (pc := 1) dX9_heldAhead_1 (Nat.le_of_ble_eq_true rfl) ?_
  dsimp only [lsSt, List.set, mLs, mEnt]
  refine rj_iconst (pc := 2) dX9_heldAhead_2 ?_
  refine r_istore (pc := 3) dX9_heldAhead_3 (Nat.le_of_ble_eq_true rfl) ?_
  dsimp only [lsSt, List.set, mLs, mEnt]
  exact L_heldAhead d hW hc hN hcap N 0 (by omega)
def hpL (c : Nat → Int) (nm : Nat → Int64) (N : Nat) (i : Int) : Nat → Nat → Int
  | 0, _ => -1
  | n + 1, t => if c (32 + 3 * t) = 0 ∧ cnt (haB c nm (nm t)) N = i then (t : Int) else hpL c nm N i n (t + 1)
set_option maxHeartbeats 4000000 in
set_option maxRecDepth 100000 in
theorem L_heldAtPlace {G : mG} {l : Launch} (d : Nat) {h : mH} {w : Nat} {c : Nat → Int} {C : Nat → Nat → Int} {nm : Nat → Int64} {g : Nat → Option Nat} (hW : isW h w c C nm g) (hc : ∀ q, InR (c q)) {N : Nat} (hN : c 0 = (N : Int)) (hcap : N ≤ 90) {i : Int} (hi : InR i) : ∀ n t : Nat, t + n = N → RUN G l (d + 3) mX9_heldAtPlace 2 [some (.ref w), some (.int (J i)), some (.int (J (t : Int)))] [] h (fun v h' => v = some (.int (J (hpL c nm N i n t))) ∧ h' = h) := by
  intro n
  induction n with
  | zero =>
    intro t ht
    refine r_iload_n (pc := 2) dX9_heldAtPlace_2 rfl ?_
    refine r_aload_n (pc := 3) dX9_heldAtPlace_3 rfl (by first | rfl | exact isRefV_rf _) ?_
    refine r_getf (pc := 4) dX9_heldAtPlace_4 fX9_71 (by first | assumption | exact isI.gx (by assumption) | exact isI.gc (by assumption) | exact isW.gx (by assumption) | exact isW.gF (by assumption) | exact isW.gT (by assumption) (by omega) | exact isW.gS (by assumption) (by omega) | exact isW.gK (by assumption) (by omega) | exact isW.g1 (by assumption) | exact isW.g2 (by assumption) | exact isW.g3 (by assumption) | exact isI.gx (isW.i0 (by assumption)) | exact isI.gc (isW.i0 (by assumption)) | exact isI.gx (isW.i1 (by assumption)) | exact isI.gc (isW.i1 (by assumption)) | exact isI.gx (isW.i2 (by assumption)) | exact isI.gc (isW.i2 (by assumption)) | exact isI.gx (isW.i3 (by assumption)) | exact isI.gc (isW.i3 (by assumption)) | exact isI.gx (isW.i4 (by assumption)) | exact isI.gc (isW.i4 (by assumption)) | exact isI.gx (isW.i5 (by assumption)) | exact isI.gc (isW.i5 (by assumption)) | exact isR.gx (by assumption) | exact isRd.gx (by assumption) | exact isSp.gx (by assumption) | exact isI.gx (isR.i (by assumption)) | exact isI.gx (isRd.i (by assumption)) | exact isI.gc (isRd.i (by assumption)) | exact isI.gx (isSp.i (by assumption)) | exact isW.gx (isR.w (by assumption)) | exact isW.gF (isR.w (by assumption)) | fail "no such object") (by rfl) ?_
    refine rj_icmp_ge (pc := 7) (tgt := 39) dX9_heldAtPlace_7 (by decide) (by first | exact b01_r | exact bz_r | omega | (constructor <;> omega) | apply_assumption | (apply atF_r; assumption) | fail "no range") (by first | exact b01_r | exact bz_r | omega | (constructor <;> omega) | apply_assumption | (apply atF_r; assumption) | fail "no range") (fun c_7 => ?_) (fun c_7 => ?_)
    · refine rj_iconst (pc := 39) dX9_heldAtPlace_39 ?_
      refine r_ireturn (pc := 40) .int dX9_heldAtPlace_40 rfl (by first | rfl | assumption) ?_
      exact ⟨rfl, rfl⟩
    · exfalso; omega
  | succ n ih =>
    intro t ht
    refine r_iload_n (pc := 2) dX9_heldAtPlace_2 rfl ?_
    refine r_aload_n (pc := 3) dX9_heldAtPlace_3 rfl (by first | rfl | exact isRefV_rf _) ?_
    refine r_getf (pc := 4) dX9_heldAtPlace_4 fX9_71 (by first | assumption | exact isI.gx (by assumption) | exact isI.gc (by assumption) | exact isW.gx (by assumption) | exact isW.gF (by assumption) | exact isW.gT (by assumption) (by omega) | exact isW.gS (by assumption) (by omega) | exact isW.gK (by assumption) (by omega) | exact isW.g1 (by assumption) | exact isW.g2 (by assumption) | exact isW.g3 (by assumption) | exact isI.gx (isW.i0 (by assumption)) | exact isI.gc (isW.i0 (by assumption)) | exact isI.gx (isW.i1 (by assumption)) | exact isI.gc (isW.i1 (by assumption)) | exact isI.gx (isW.i2 (by assumption)) | exact isI.gc (isW.i2 (by assumption)) | exact isI.gx (isW.i3 (by assumption)) | exact isI.gc (isW.i3 (by assumption)) | exact isI.gx (isW.i4 (by assumption)) | exact isI.gc (isW.i4 (by assumption)) | exact isI.gx (isW.i5 (by assumption)) | exact isI.gc (isW.i5 (by assumption)) | exact isR.gx (by assumption) | exact isRd.gx (by assumption) | exact isSp.gx (by assumption) | exact isI.gx (isR.i (by assumption)) | exact isI.gx (isRd.i (by assumption)) | exact isI.gc (isRd.i (by assumption)) | exact isI.gx (isSp.i (by assumption)) | exact isW.gx (isR.w (by assumption)) | exact isW.gF (isR.w (by assumption)) | fail "no such object") (by rfl) ?_
    refine rj_icmp_ge (pc := 7) (tgt := 39) dX9_heldAtPlace_7 (by decide) (by first | exact b01_r | exact bz_r | omega | (constructor <;> omega) | apply_assumption | (apply atF_r; assumption) | fail "no range") (by first | exact b01_r | exact bz_r | omega | (constructor <;> omega) | apply_assumption | (apply atF_r; assumption) | fail "no range") (fun c_7 => ?_) (fun c_7 => ?_)
    · refine rj_iconst (pc := 39) dX9_heldAtPlace_39 ?_
      refine r_ireturn (pc := 40) .int dX9_heldAtPlace_40 rfl (by first | rfl | assumption) ?_
      first | (exfalso; omega) | exact ⟨by rw [hpL, if_pos (⟨c_15, c_28⟩)], rfl⟩
    · refine r_aload_n (pc := 10) dX9_heldAtPlace_10 rfl (by first | rfl | exact isRefV_rf _) ?_
      refine r_iload_n (pc := 11) dX9_heldAtPlace_11 rfl ?_
      refine r_callV1 (pc := 12) dX9_heldAtPlace_12 qX9_isHeld kX9_157 vX9_isHeld (by first | assumption | exact isI.gx (by assumption) | exact isI.gc (by assumption) | exact isW.gx (by assumption) | exact isW.gF (by assumption) | exact isW.gT (by assumption) (by omega) | exact isW.gS (by assumption) (by omega) | exact isW.gK (by assumption) (by omega) | exact isW.g1 (by assumption) | exact isW.g2 (by assumption) | exact isW.g3 (by assumption) | exact isI.gx (isW.i0 (by assumption)) | exact isI.gc (isW.i0 (by assumption)) | exact isI.gx (isW.i1 (by assumption)) | exact isI.gc (isW.i1 (by assumption)) | exact isI.gx (isW.i2 (by assumption)) | exact isI.gc (isW.i2 (by assumption)) | exact isI.gx (isW.i3 (by assumption)) | exact isI.gc (isW.i3 (by assumption)) | exact isI.gx (isW.i4 (by assumption)) | exact isI.gc (isW.i4 (by assumption)) | exact isI.gx (isW.i5 (by assumption)) | exact isI.gc (isW.i5 (by assumption)) | exact isR.gx (by assumption) | exact isRd.gx (by assumption) | exact isSp.gx (by assumption) | exact isI.gx (isR.i (by assumption)) | exact isI.gx (isRd.i (by assumption)) | exact isI.gc (isRd.i (by assumption)) | exact isI.gx (isSp.i (by assumption)) | exact isW.gx (isR.w (by assumption)) | exact isW.gF (isR.w (by assumption)) | fail "no such object") rfl rfl (Nat.le_of_ble_eq_true rfl) (cn_isHeld _ hW hc (t := t) (by omega) (by omega)) (fun v_12 h_12 q_12 => ?_)
      obtain ⟨rfl, rfl⟩ := q_12
      refine rj_if_eq (pc := 15) (tgt := 33) dX9_heldAtPlace_15 (by decide) (by first | exact b01_r | exact bz_r | omega | (constructor <;> omega) | apply_assumption | (apply atF_r; assumption) | fail "no range") (fun c_15 => ?_) (fun c_15 => ?_)
      · try simp only [b01_0, bz_0, Classical.not_not] at c_15
        refine rj_iinc (pc := 33) dX9_heldAtPlace_33 (Nat.le_of_ble_eq_true rfl) rfl ?_
        dsimp only [lsSt, List.set, mLs, mEnt]
        refine r_goto (pc := 36) (tgt := 2) dX9_heldAtPlace_36 (by decide) ?_
        have z := ih (t + 1) (by omega)
        rw [show ((t + 1 : Nat) : Int) = (t : Int) + 1 by omega] at z
        rw [hpL, if_neg (fun g => c_15 g.1)]
        exact z
      · try simp only [b01_0, bz_0, Classical.not_not] at c_15
        refine r_aload_n (pc := 18) dX9_heldAtPlace_18 rfl (by first | rfl | exact isRefV_rf _) ?_
        refine r_aload_n (pc := 19) dX9_heldAtPlace_19 rfl (by first | rfl | exact isRefV_rf _) ?_
        refine r_iload_n (pc := 20) dX9_heldAtPlace_20 rfl ?_
        refine r_callV1 (pc := 21) dX9_heldAtPlace_21 qX9_nameOf kX9_168 vX9_nameOf (by first | assumption | exact isI.gx (by assumption) | exact isI.gc (by assumption) | exact isW.gx (by assumption) | exact isW.gF (by assumption) | exact isW.gT (by assumption) (by omega) | exact isW.gS (by assumption) (by omega) | exact isW.gK (by assumption) (by omega) | exact isW.g1 (by assumption) | exact isW.g2 (by assumption) | exact isW.g3 (by assumption) | exact isI.gx (isW.i0 (by assumption)) | exact isI.gc (isW.i0 (by assumption)) | exact isI.gx (isW.i1 (by assumption)) | exact isI.gc (isW.i1 (by assumption)) | exact isI.gx (isW.i2 (by assumption)) | exact isI.gc (isW.i2 (by assumption)) | exact isI.gx (isW.i3 (by assumption)) | exact isI.gc (isW.i3 (by assumption)) | exact isI.gx (isW.i4 (by assumption)) | exact isI.gc (isW.i4 (by assumption)) | exact isI.gx (isW.i5 (by assumption)) | exact isI.gc (isW.i5 (by assumption)) | exact isR.gx (by assumption) | exact isRd.gx (by assumption) | exact isSp.gx (by assumption) | exact isI.gx (isR.i (by assumption)) | exact isI.gx (isRd.i (by assumption)) | exact isI.gc (isRd.i (by assumption)) | exact isI.gx (isSp.i (by assumption)) | exact isW.gx (isR.w (by assumption)) | exact isW.gF (isR.w (by assumption)) | fail "no such object") rfl rfl (Nat.le_of_ble_eq_true rfl) (cn_nameOf _ hW hc (t := t) (by omega) (by omega)) (fun v_21 h_21 q_21 => ?_)
        obtain ⟨rfl, rfl⟩ := q_21
        refine r_callV1 (pc := 24) dX9_heldAtPlace_24 qX9_heldAhead kX9_180 vX9_heldAhead (by first | assumption | exact isI.gx (by assumption) | exact isI.gc (by assumption) | exact isW.gx (by assumption) | exact isW.gF (by assumption) | exact isW.gT (by assumption) (by omega) | exact isW.gS (by assumption) (by omega) | exact isW.gK (by assumption) (by omega) | exact isW.g1 (by assumption) | exact isW.g2 (by assumption) | exact isW.g3 (by assumption) | exact isI.gx (isW.i0 (by assumption)) | exact isI.gc (isW.i0 (by assumption)) | exact isI.gx (isW.i1 (by assumption)) | exact isI.gc (isW.i1 (by assumption)) | exact isI.gx (isW.i2 (by assumption)) | exact isI.gc (isW.i2 (by assumption)) | exact isI.gx (isW.i3 (by assumption)) | exact isI.gc (isW.i3 (by assumption)) | exact isI.gx (isW.i4 (by assumption)) | exact isI.gc (isW.i4 (by assumption)) | exact isI.gx (isW.i5 (by assumption)) | exact isI.gc (isW.i5 (by assumption)) | exact isR.gx (by assumption) | exact isRd.gx (by assumption) | exact isSp.gx (by assumption) | exact isI.gx (isR.i (by assumption)) | exact isI.gx (isRd.i (by assumption)) | exact isI.gc (isRd.i (by assumption)) | exact isI.gx (isSp.i (by assumption)) | exact isW.gx (isR.w (by assumption)) | exact isW.gF (isR.w (by assumption)) | fail "no such object") rfl rfl (Nat.le_of_ble_eq_true rfl) (cq_heldAhead _ hW hc hN hcap (y := nm t)) (fun v_24 h_24 q_24 => ?_)
        obtain ⟨rfl, rfl⟩ := q_24
        have rk := cnt_r (haB c nm (nm t)) N
        refine r_iload_n (pc := 27) dX9_heldAtPlace_27 rfl ?_
        refine rj_icmp_ne (pc := 28) (tgt := 33) dX9_heldAtPlace_28 (by decide) (by first | exact b01_r | exact bz_r | omega | (constructor <;> omega) | apply_assumption | (apply atF_r; assumption) | fail "no range") (by first | exact b01_r | exact bz_r | omega | (constructor <;> omega) | apply_assumption | (apply atF_r; assumption) | fail "no range") (fun c_28 => ?_) (fun c_28 => ?_)
        · refine rj_iinc (pc := 33) dX9_heldAtPlace_33 (Nat.le_of_ble_eq_true rfl) rfl ?_
          dsimp only [lsSt, List.set, mLs, mEnt]
          refine r_goto (pc := 36) (tgt := 2) dX9_heldAtPlace_36 (by decide) ?_
          have z := ih (t + 1) (by omega)
          rw [show ((t + 1 : Nat) : Int) = (t : Int) + 1 by omega] at z
          rw [hpL, if_neg (fun g => c_28 g.2)]
          exact z
        · refine r_iload_n (pc := 31) dX9_heldAtPlace_31 rfl ?_
          refine r_ireturn (pc := 32) .int dX9_heldAtPlace_32 rfl (by first | rfl | assumption) ?_
          first | (exfalso; omega) | exact ⟨by rw [hpL, if_pos (⟨c_15, c_28⟩)], rfl⟩
set_option maxHeartbeats 4000000 in
set_option maxRecDepth 100000 in
theorem cq_heldAtPlace {G : mG} {l : Launch} (d : Nat) {h : mH} {w : Nat} {c : Nat → Int} {C : Nat → Nat → Int} {nm : Nat → Int64} {g : Nat → Option Nat} (hW : isW h w c C nm g) (hc : ∀ q, InR (c q)) {N : Nat} (hN : c 0 = (N : Int)) (hcap : N ≤ 90) {i : Int} (hi : InR i) : RUNM G l (d + 3) mX9_heldAtPlace [.ref w, .int (J i)] h (fun v h' => v = some (.int (J (hpL c nm N i N 0))) ∧ h' = h) := by
  refine RUNM.of (by decide +kernel) (Nat.le_of_ble_eq_true rfl) ?_
  refine rj_iconst (pc := 0) dX9_heldAtPlace_0 ?_
  refine r_istore_n (pc := 1) dX9_heldAtPlace_1 (Nat.le_of_ble_eq_true rfl) ?_
  dsimp only [lsSt, List.set, mLs, mEnt]
  exact L_heldAtPlace d hW hc hN hcap hi N 0 (by omega)
def ryB (c : Nat → Int) (t : Nat) : Bool := decide (c (489 + 9 * t) = 0)
set_option maxHeartbeats 4000000 in
set_option maxRecDepth 100000 in
theorem L_readyTasks {G : mG} {l : Launch} (d : Nat) {h : mH} {w : Nat} {c : Nat → Int} {C : Nat → Nat → Int} {nm : Nat → Int64} {g : Nat → Option Nat} (hW : isW h w c C nm g) (hc : ∀ q, InR (c q)) {K : Nat} (hK : c 2 = (K : Int)) (hcapK : K ≤ 10) : ∀ k t : Nat, t + k = K → RUN G l (d + 2) mX9_readyTasks 4 [some (.ref w), some (.int (J (cnt (ryB c) t))), some (.int (J (t : Int)))] [] h (fun v h' => v = some (.int (J (cnt (ryB c) K))) ∧ h' = h) := by
  intro k
  induction k with
  | zero =>
    intro t ht
    refine r_iload_n (pc := 4) dX9_readyTasks_4 rfl ?_
    refine r_aload_n (pc := 5) dX9_readyTasks_5 rfl (by first | rfl | exact isRefV_rf _) ?_
    refine r_getf (pc := 6) dX9_readyTasks_6 fX9_81 (by first | assumption | exact isI.gx (by assumption) | exact isI.gc (by assumption) | exact isW.gx (by assumption) | exact isW.gF (by assumption) | exact isW.gT (by assumption) (by omega) | exact isW.gS (by assumption) (by omega) | exact isW.gK (by assumption) (by omega) | exact isW.g1 (by assumption) | exact isW.g2 (by assumption) | exact isW.g3 (by assumption) | exact isI.gx (isW.i0 (by assumption)) | exact isI.gc (isW.i0 (by assumption)) | exact isI.gx (isW.i1 (by assumption)) | exact isI.gc (isW.i1 (by assumption)) | exact isI.gx (isW.i2 (by assumption)) | exact isI.gc (isW.i2 (by assumption)) | exact isI.gx (isW.i3 (by assumption)) | exact isI.gc (isW.i3 (by assumption)) | exact isI.gx (isW.i4 (by assumption)) | exact isI.gc (isW.i4 (by assumption)) | exact isI.gx (isW.i5 (by assumption)) | exact isI.gc (isW.i5 (by assumption)) | exact isR.gx (by assumption) | exact isRd.gx (by assumption) | exact isSp.gx (by assumption) | exact isI.gx (isR.i (by assumption)) | exact isI.gx (isRd.i (by assumption)) | exact isI.gc (isRd.i (by assumption)) | exact isI.gx (isSp.i (by assumption)) | exact isW.gx (isR.w (by assumption)) | exact isW.gF (isR.w (by assumption)) | fail "no such object") (by rfl) ?_
    refine rj_icmp_ge (pc := 9) (tgt := 29) dX9_readyTasks_9 (by decide) (by first | exact b01_r | exact bz_r | omega | (constructor <;> omega) | apply_assumption | (apply atF_r; assumption) | fail "no range") (by first | exact b01_r | exact bz_r | omega | (constructor <;> omega) | apply_assumption | (apply atF_r; assumption) | fail "no range") (fun c_9 => ?_) (fun c_9 => ?_)
    · refine r_iload_n (pc := 29) dX9_readyTasks_29 rfl ?_
      refine r_ireturn (pc := 30) .int dX9_readyTasks_30 rfl (by first | rfl | assumption) ?_
      obtain rfl : t = K := by omega
      exact ⟨rfl, rfl⟩
    · exfalso; omega
  | succ k ih =>
    intro t ht
    refine r_iload_n (pc := 4) dX9_readyTasks_4 rfl ?_
    refine r_aload_n (pc := 5) dX9_readyTasks_5 rfl (by first | rfl | exact isRefV_rf _) ?_
    refine r_getf (pc := 6) dX9_readyTasks_6 fX9_81 (by first | assumption | exact isI.gx (by assumption) | exact isI.gc (by assumption) | exact isW.gx (by assumption) | exact isW.gF (by assumption) | exact isW.gT (by assumption) (by omega) | exact isW.gS (by assumption) (by omega) | exact isW.gK (by assumption) (by omega) | exact isW.g1 (by assumption) | exact isW.g2 (by assumption) | exact isW.g3 (by assumption) | exact isI.gx (isW.i0 (by assumption)) | exact isI.gc (isW.i0 (by assumption)) | exact isI.gx (isW.i1 (by assumption)) | exact isI.gc (isW.i1 (by assumption)) | exact isI.gx (isW.i2 (by assumption)) | exact isI.gc (isW.i2 (by assumption)) | exact isI.gx (isW.i3 (by assumption)) | exact isI.gc (isW.i3 (by assumption)) | exact isI.gx (isW.i4 (by assumption)) | exact isI.gc (isW.i4 (by assumption)) | exact isI.gx (isW.i5 (by assumption)) | exact isI.gc (isW.i5 (by assumption)) | exact isR.gx (by assumption) | exact isRd.gx (by assumption) | exact isSp.gx (by assumption) | exact isI.gx (isR.i (by assumption)) | exact isI.gx (isRd.i (by assumption)) | exact isI.gc (isRd.i (by assumption)) | exact isI.gx (isSp.i (by assumption)) | exact isW.gx (isR.w (by assumption)) | exact isW.gF (isR.w (by assumption)) | fail "no such object") (by rfl) ?_
    refine rj_icmp_ge (pc := 9) (tgt := 29) dX9_readyTasks_9 (by decide) (by first | exact b01_r | exact bz_r | omega | (constructor <;> omega) | apply_assumption | (apply atF_r; assumption) | fail "no range") (by first | exact b01_r | exact bz_r | omega | (constructor <;> omega) | apply_assumption | (apply atF_r; assumption) | fail "no range") (fun c_9 => ?_) (fun c_9 => ?_)
    · refine r_iload_n (pc := 29) dX9_readyTasks_29 rfl ?_
      refine r_ireturn (pc := 30) .int dX9_readyTasks_30 rfl (by first | rfl | assumption) ?_
      exfalso; omega
    · refine r_aload_n (pc := 12) dX9_readyTasks_12 rfl (by first | rfl | exact isRefV_rf _) ?_
      refine r_iload_n (pc := 13) dX9_readyTasks_13 rfl ?_
      refine r_callV1 (pc := 14) dX9_readyTasks_14 qX9_isReady kX9_184 vX9_isReady (by first | assumption | exact isI.gx (by assumption) | exact isI.gc (by assumption) | exact isW.gx (by assumption) | exact isW.gF (by assumption) | exact isW.gT (by assumption) (by omega) | exact isW.gS (by assumption) (by omega) | exact isW.gK (by assumption) (by omega) | exact isW.g1 (by assumption) | exact isW.g2 (by assumption) | exact isW.g3 (by assumption) | exact isI.gx (isW.i0 (by assumption)) | exact isI.gc (isW.i0 (by assumption)) | exact isI.gx (isW.i1 (by assumption)) | exact isI.gc (isW.i1 (by assumption)) | exact isI.gx (isW.i2 (by assumption)) | exact isI.gc (isW.i2 (by assumption)) | exact isI.gx (isW.i3 (by assumption)) | exact isI.gc (isW.i3 (by assumption)) | exact isI.gx (isW.i4 (by assumption)) | exact isI.gc (isW.i4 (by assumption)) | exact isI.gx (isW.i5 (by assumption)) | exact isI.gc (isW.i5 (by assumption)) | exact isR.gx (by assumption) | exact isRd.gx (by assumption) | exact isSp.gx (by assumption) | exact isI.gx (isR.i (by assumption)) | exact isI.gx (isRd.i (by assumption)) | exact isI.gc (isRd.i (by assumption)) | exact isI.gx (isSp.i (by assumption)) | exact isW.gx (isR.w (by assumption)) | exact isW.gF (isR.w (by assumption)) | fail "no such object") rfl rfl (Nat.le_of_ble_eq_true rfl) (cn_isReady (d) hW hc (t := t) (by omega) (by omega)) (fun v_14 h_14 q_14 => ?_)
      obtain ⟨rfl, rfl⟩ := q_14
      refine rj_if_eq (pc := 17) (tgt := 23) dX9_readyTasks_17 (by decide) (by first | exact b01_r | exact bz_r | omega | (constructor <;> omega) | apply_assumption | (apply atF_r; assumption) | fail "no range") (fun c_17 => ?_) (fun c_17 => ?_)
      · try simp only [b01_0, bz_0, Classical.not_not] at c_17
        refine rj_iinc (pc := 23) dX9_readyTasks_23 (Nat.le_of_ble_eq_true rfl) rfl ?_
        dsimp only [lsSt, List.set, mLs, mEnt]
        refine r_goto (pc := 26) (tgt := 4) dX9_readyTasks_26 (by decide) ?_
        have z := ih (t + 1) (by omega)
        rw [show ((t + 1 : Nat) : Int) = (t : Int) + 1 by omega] at z
        rw [← cnt_f (p := ryB c) (n := t) (decide_eq_false (c_17))] at z
        rw [Int.add_zero] at z
        exact z
      · try simp only [b01_0, bz_0, Classical.not_not] at c_17
        refine rj_iinc (pc := 20) dX9_readyTasks_20 (Nat.le_of_ble_eq_true rfl) rfl ?_
        dsimp only [lsSt, List.set, mLs, mEnt]
        refine rj_iinc (pc := 23) dX9_readyTasks_23 (Nat.le_of_ble_eq_true rfl) rfl ?_
        dsimp only [lsSt, List.set, mLs, mEnt]
        refine r_goto (pc := 26) (tgt := 4) dX9_readyTasks_26 (by decide) ?_
        have z := ih (t + 1) (by omega)
        rw [show ((t + 1 : Nat) : Int) = (t : Int) + 1 by omega] at z
        rw [← cnt_t (p := ryB c) (n := t) (decide_eq_true (c_17))] at z
        exact z
set_option maxHeartbeats 4000000 in
set_option maxRecDepth 100000 in
theorem cq_readyTasks {G : mG} {l : Launch} (d : Nat) {h : mH} {w : Nat} {c : Nat → Int} {C : Nat → Nat → Int} {nm : Nat → Int64} {g : Nat → Option Nat} (hW : isW h w c C nm g) (hc : ∀ q, InR (c q)) {K : Nat} (hK : c 2 = (K : Int)) (hcapK : K ≤ 10) : RUNM G l (d + 2) mX9_readyTasks [.ref w] h (fun v h' => v = some (.int (J (cnt (ryB c) K))) ∧ h' = h) := by
  refine RUNM.of (by decide +kernel) (Nat.le_of_ble_eq_true rfl) ?_
  refine rj_iconst (pc := 0) dX9_readyTasks_0 ?_
  refine r_istore_n (pc := 1) dX9_readyTasks_1 (Nat.le_of_ble_eq_true rfl) ?_
  dsimp only [lsSt, List.set, mLs, mEnt]
  refine rj_iconst (pc := 2) dX9_readyTasks_2 ?_
  refine r_istore_n (pc := 3) dX9_readyTasks_3 (Nat.le_of_ble_eq_true rfl) ?_
  dsimp only [lsSt, List.set, mLs, mEnt]
  exact L_readyTasks d hW hc hK hcapK K 0 (by omega)
abbrev caP (c : Nat → Int) (a b : Nat) : Prop := (¬ c (490 + 9 * a) = c (490 + 9 * b) ∧ c (490 + 9 * b) < c (490 + 9 * a)) ∨ (c (490 + 9 * a) = c (490 + 9 * b) ∧ c (492 + 9 * a) < c (492 + 9 * b))
set_option maxHeartbeats 4000000 in
set_option maxRecDepth 100000 in
theorem cw_comesAheadOf {G : mG} {l : Launch} (d : Nat) {h : mH} {w : Nat} {c : Nat → Int} {C : Nat → Nat → Int} {nm : Nat → Int64} {g : Nat → Option Nat} (hW : isW h w c C nm g) (hc : ∀ q, InR (c q)) {a b : Nat} (ha : a < 10) (hb : b < 10) : RUNM G l (d) mX7_comesAheadOf [.ref (wK w a), .ref (wK w b)] h (fun v h' => v = some (.int (J (b01 (caP c a b)))) ∧ h' = h) := by
  refine RUNM.of (by decide +kernel) (Nat.le_of_ble_eq_true rfl) ?_
  have ra := hc (490 + 9 * a)
  have rb := hc (490 + 9 * b)
  have la := hc (492 + 9 * a)
  have lb := hc (492 + 9 * b)
  refine r_aload_n (pc := 0) dX7_comesAheadOf_0 rfl (by first | rfl | exact isRefV_rf _) ?_
  refine r_getf (pc := 1) dX7_comesAheadOf_1 fX7_25 (by first | assumption | exact isI.gx (by assumption) | exact isI.gc (by assumption) | exact isW.gx (by assumption) | exact isW.gF (by assumption) | exact isW.gT (by assumption) (by omega) | exact isW.gS (by assumption) (by omega) | exact isW.gK (by assumption) (by omega) | exact isW.g1 (by assumption) | exact isW.g2 (by assumption) | exact isW.g3 (by assumption) | exact isI.gx (isW.i0 (by assumption)) | exact isI.gc (isW.i0 (by assumption)) | exact isI.gx (isW.i1 (by assumption)) | exact isI.gc (isW.i1 (by assumption)) | exact isI.gx (isW.i2 (by assumption)) | exact isI.gc (isW.i2 (by assumption)) | exact isI.gx (isW.i3 (by assumption)) | exact isI.gc (isW.i3 (by assumption)) | exact isI.gx (isW.i4 (by assumption)) | exact isI.gc (isW.i4 (by assumption)) | exact isI.gx (isW.i5 (by assumption)) | exact isI.gc (isW.i5 (by assumption)) | exact isR.gx (by assumption) | exact isRd.gx (by assumption) | exact isSp.gx (by assumption) | exact isI.gx (isR.i (by assumption)) | exact isI.gx (isRd.i (by assumption)) | exact isI.gc (isRd.i (by assumption)) | exact isI.gx (isSp.i (by assumption)) | exact isW.gx (isR.w (by assumption)) | exact isW.gF (isR.w (by assumption)) | fail "no such object") (by rfl) ?_
  refine r_aload_n (pc := 4) dX7_comesAheadOf_4 rfl (by first | rfl | exact isRefV_rf _) ?_
  refine r_getf (pc := 5) dX7_comesAheadOf_5 fX7_25 (by first | assumption | exact isI.gx (by assumption) | exact isI.gc (by assumption) | exact isW.gx (by assumption) | exact isW.gF (by assumption) | exact isW.gT (by assumption) (by omega) | exact isW.gS (by assumption) (by omega) | exact isW.gK (by assumption) (by omega) | exact isW.g1 (by assumption) | exact isW.g2 (by assumption) | exact isW.g3 (by assumption) | exact isI.gx (isW.i0 (by assumption)) | exact isI.gc (isW.i0 (by assumption)) | exact isI.gx (isW.i1 (by assumption)) | exact isI.gc (isW.i1 (by assumption)) | exact isI.gx (isW.i2 (by assumption)) | exact isI.gc (isW.i2 (by assumption)) | exact isI.gx (isW.i3 (by assumption)) | exact isI.gc (isW.i3 (by assumption)) | exact isI.gx (isW.i4 (by assumption)) | exact isI.gc (isW.i4 (by assumption)) | exact isI.gx (isW.i5 (by assumption)) | exact isI.gc (isW.i5 (by assumption)) | exact isR.gx (by assumption) | exact isRd.gx (by assumption) | exact isSp.gx (by assumption) | exact isI.gx (isR.i (by assumption)) | exact isI.gx (isRd.i (by assumption)) | exact isI.gc (isRd.i (by assumption)) | exact isI.gx (isSp.i (by assumption)) | exact isW.gx (isR.w (by assumption)) | exact isW.gF (isR.w (by assumption)) | fail "no such object") (by rfl) ?_
  refine rj_icmp_eq (pc := 8) (tgt := 30) dX7_comesAheadOf_8 (by decide) (by first | exact b01_r | exact bz_r | omega | (constructor <;> omega) | apply_assumption | (apply atF_r; assumption) | fail "no range") (by first | exact b01_r | exact bz_r | omega | (constructor <;> omega) | apply_assumption | (apply atF_r; assumption) | fail "no range") (fun c_8 => ?_) (fun c_8 => ?_)
  · refine r_aload_n (pc := 30) dX7_comesAheadOf_30 rfl (by first | rfl | exact isRefV_rf _) ?_
    refine r_getf (pc := 31) dX7_comesAheadOf_31 fX7_31 (by first | assumption | exact isI.gx (by assumption) | exact isI.gc (by assumption) | exact isW.gx (by assumption) | exact isW.gF (by assumption) | exact isW.gT (by assumption) (by omega) | exact isW.gS (by assumption) (by omega) | exact isW.gK (by assumption) (by omega) | exact isW.g1 (by assumption) | exact isW.g2 (by assumption) | exact isW.g3 (by assumption) | exact isI.gx (isW.i0 (by assumption)) | exact isI.gc (isW.i0 (by assumption)) | exact isI.gx (isW.i1 (by assumption)) | exact isI.gc (isW.i1 (by assumption)) | exact isI.gx (isW.i2 (by assumption)) | exact isI.gc (isW.i2 (by assumption)) | exact isI.gx (isW.i3 (by assumption)) | exact isI.gc (isW.i3 (by assumption)) | exact isI.gx (isW.i4 (by assumption)) | exact isI.gc (isW.i4 (by assumption)) | exact isI.gx (isW.i5 (by assumption)) | exact isI.gc (isW.i5 (by assumption)) | exact isR.gx (by assumption) | exact isRd.gx (by assumption) | exact isSp.gx (by assumption) | exact isI.gx (isR.i (by assumption)) | exact isI.gx (isRd.i (by assumption)) | exact isI.gc (isRd.i (by assumption)) | exact isI.gx (isSp.i (by assumption)) | exact isW.gx (isR.w (by assumption)) | exact isW.gF (isR.w (by assumption)) | fail "no such object") (by rfl) ?_
    refine r_aload_n (pc := 34) dX7_comesAheadOf_34 rfl (by first | rfl | exact isRefV_rf _) ?_
    refine r_getf (pc := 35) dX7_comesAheadOf_35 fX7_31 (by first | assumption | exact isI.gx (by assumption) | exact isI.gc (by assumption) | exact isW.gx (by assumption) | exact isW.gF (by assumption) | exact isW.gT (by assumption) (by omega) | exact isW.gS (by assumption) (by omega) | exact isW.gK (by assumption) (by omega) | exact isW.g1 (by assumption) | exact isW.g2 (by assumption) | exact isW.g3 (by assumption) | exact isI.gx (isW.i0 (by assumption)) | exact isI.gc (isW.i0 (by assumption)) | exact isI.gx (isW.i1 (by assumption)) | exact isI.gc (isW.i1 (by assumption)) | exact isI.gx (isW.i2 (by assumption)) | exact isI.gc (isW.i2 (by assumption)) | exact isI.gx (isW.i3 (by assumption)) | exact isI.gc (isW.i3 (by assumption)) | exact isI.gx (isW.i4 (by assumption)) | exact isI.gc (isW.i4 (by assumption)) | exact isI.gx (isW.i5 (by assumption)) | exact isI.gc (isW.i5 (by assumption)) | exact isR.gx (by assumption) | exact isRd.gx (by assumption) | exact isSp.gx (by assumption) | exact isI.gx (isR.i (by assumption)) | exact isI.gx (isRd.i (by assumption)) | exact isI.gc (isRd.i (by assumption)) | exact isI.gx (isSp.i (by assumption)) | exact isW.gx (isR.w (by assumption)) | exact isW.gF (isR.w (by assumption)) | fail "no such object") (by rfl) ?_
    refine rj_icmp_ge (pc := 38) (tgt := 45) dX7_comesAheadOf_38 (by decide) (by first | exact b01_r | exact bz_r | omega | (constructor <;> omega) | apply_assumption | (apply atF_r; assumption) | fail "no range") (by first | exact b01_r | exact bz_r | omega | (constructor <;> omega) | apply_assumption | (apply atF_r; assumption) | fail "no range") (fun c_38 => ?_) (fun c_38 => ?_)
    · refine rj_iconst (pc := 45) dX7_comesAheadOf_45 ?_
      refine r_ireturn (pc := 46) .boolean dX7_comesAheadOf_46 rfl (by first | exact nar_J0 | exact nar_J1 | exact nar_b01 | exact nar_bz) ?_
      first
      | exact ⟨vf (by unfold caP; omega), rfl⟩
      | exact ⟨vt (by unfold caP; omega), rfl⟩
    · refine rj_iconst (pc := 41) dX7_comesAheadOf_41 ?_
      refine r_goto (pc := 42) (tgt := 46) dX7_comesAheadOf_42 (by decide) ?_
      refine r_ireturn (pc := 46) .boolean dX7_comesAheadOf_46 rfl (by first | exact nar_J0 | exact nar_J1 | exact nar_b01 | exact nar_bz) ?_
      first
      | exact ⟨vf (by unfold caP; omega), rfl⟩
      | exact ⟨vt (by unfold caP; omega), rfl⟩
  · refine r_aload_n (pc := 11) dX7_comesAheadOf_11 rfl (by first | rfl | exact isRefV_rf _) ?_
    refine r_getf (pc := 12) dX7_comesAheadOf_12 fX7_25 (by first | assumption | exact isI.gx (by assumption) | exact isI.gc (by assumption) | exact isW.gx (by assumption) | exact isW.gF (by assumption) | exact isW.gT (by assumption) (by omega) | exact isW.gS (by assumption) (by omega) | exact isW.gK (by assumption) (by omega) | exact isW.g1 (by assumption) | exact isW.g2 (by assumption) | exact isW.g3 (by assumption) | exact isI.gx (isW.i0 (by assumption)) | exact isI.gc (isW.i0 (by assumption)) | exact isI.gx (isW.i1 (by assumption)) | exact isI.gc (isW.i1 (by assumption)) | exact isI.gx (isW.i2 (by assumption)) | exact isI.gc (isW.i2 (by assumption)) | exact isI.gx (isW.i3 (by assumption)) | exact isI.gc (isW.i3 (by assumption)) | exact isI.gx (isW.i4 (by assumption)) | exact isI.gc (isW.i4 (by assumption)) | exact isI.gx (isW.i5 (by assumption)) | exact isI.gc (isW.i5 (by assumption)) | exact isR.gx (by assumption) | exact isRd.gx (by assumption) | exact isSp.gx (by assumption) | exact isI.gx (isR.i (by assumption)) | exact isI.gx (isRd.i (by assumption)) | exact isI.gc (isRd.i (by assumption)) | exact isI.gx (isSp.i (by assumption)) | exact isW.gx (isR.w (by assumption)) | exact isW.gF (isR.w (by assumption)) | fail "no such object") (by rfl) ?_
    refine r_aload_n (pc := 15) dX7_comesAheadOf_15 rfl (by first | rfl | exact isRefV_rf _) ?_
    refine r_getf (pc := 16) dX7_comesAheadOf_16 fX7_25 (by first | assumption | exact isI.gx (by assumption) | exact isI.gc (by assumption) | exact isW.gx (by assumption) | exact isW.gF (by assumption) | exact isW.gT (by assumption) (by omega) | exact isW.gS (by assumption) (by omega) | exact isW.gK (by assumption) (by omega) | exact isW.g1 (by assumption) | exact isW.g2 (by assumption) | exact isW.g3 (by assumption) | exact isI.gx (isW.i0 (by assumption)) | exact isI.gc (isW.i0 (by assumption)) | exact isI.gx (isW.i1 (by assumption)) | exact isI.gc (isW.i1 (by assumption)) | exact isI.gx (isW.i2 (by assumption)) | exact isI.gc (isW.i2 (by assumption)) | exact isI.gx (isW.i3 (by assumption)) | exact isI.gc (isW.i3 (by assumption)) | exact isI.gx (isW.i4 (by assumption)) | exact isI.gc (isW.i4 (by assumption)) | exact isI.gx (isW.i5 (by assumption)) | exact isI.gc (isW.i5 (by assumption)) | exact isR.gx (by assumption) | exact isRd.gx (by assumption) | exact isSp.gx (by assumption) | exact isI.gx (isR.i (by assumption)) | exact isI.gx (isRd.i (by assumption)) | exact isI.gc (isRd.i (by assumption)) | exact isI.gx (isSp.i (by assumption)) | exact isW.gx (isR.w (by assumption)) | exact isW.gF (isR.w (by assumption)) | fail "no such object") (by rfl) ?_
    refine rj_icmp_le (pc := 19) (tgt := 26) dX7_comesAheadOf_19 (by decide) (by first | exact b01_r | exact bz_r | omega | (constructor <;> omega) | apply_assumption | (apply atF_r; assumption) | fail "no range") (by first | exact b01_r | exact bz_r | omega | (constructor <;> omega) | apply_assumption | (apply atF_r; assumption) | fail "no range") (fun c_19 => ?_) (fun c_19 => ?_)
    · refine rj_iconst (pc := 26) dX7_comesAheadOf_26 ?_
      refine r_goto (pc := 27) (tgt := 46) dX7_comesAheadOf_27 (by decide) ?_
      refine r_ireturn (pc := 46) .boolean dX7_comesAheadOf_46 rfl (by first | exact nar_J0 | exact nar_J1 | exact nar_b01 | exact nar_bz) ?_
      first
      | exact ⟨vf (by unfold caP; omega), rfl⟩
      | exact ⟨vt (by unfold caP; omega), rfl⟩
    · refine rj_iconst (pc := 22) dX7_comesAheadOf_22 ?_
      refine r_goto (pc := 23) (tgt := 46) dX7_comesAheadOf_23 (by decide) ?_
      refine r_ireturn (pc := 46) .boolean dX7_comesAheadOf_46 rfl (by first | exact nar_J0 | exact nar_J1 | exact nar_b01 | exact nar_bz) ?_
      first
      | exact ⟨vf (by unfold caP; omega), rfl⟩
      | exact ⟨vt (by unfold caP; omega), rfl⟩

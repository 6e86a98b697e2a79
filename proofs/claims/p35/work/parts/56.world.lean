/-! ===== the class: what its world answers while no thing and no task is there ===== -/
theorem updI_r {c : Nat → Int} (hc : ∀ q, InR (c q)) {k : Nat} {v : Int} (hv : InR v) (q : Nat) : InR (updI c k v q) := by
  unfold updI; split
  · exact hv
  · exact hc q
theorem updI_id (c : Nat → Int) (k : Nat) : updI c k (c k) = c := by
  funext q; unfold updI; split
  · subst_vars; rfl
  · rfl
theorem updC_id (c : Nat → Nat → Int) (k : Nat) : updC c k (c k) = c := by
  funext q; unfold updC; split
  · subst_vars; rfl
  · rfl
def opW (c : Nat → Int) (q : Nat) : Bool := decide (c (304 + 3 * q) = 0)
set_option maxHeartbeats 4000000 in
set_option maxRecDepth 100000 in
theorem L_openScopes {G : mG} {l : Launch} (d : Nat) {h : mH} {w : Nat} {c : Nat → Int} {C : Nat → Nat → Int} {nm : Nat → Int64} {g : Nat → Option Nat} (hW : isW h w c C nm g) (hc : ∀ q, InR (c q)) {N : Nat} (hN : c 1 = (N : Int)) (hcap : N ≤ 60) : ∀ k t : Nat, t + k = N → RUN G l (d + 2) mX9_openScopes 4 [some (.ref w), some (.int (J (cnt (opW c) t))), some (.int (J (t : Int)))] [] h (fun v h' => v = some (.int (J (cnt (opW c) N))) ∧ h' = h) := by
  have r1 := hc 1
  intro k
  induction k with
  | zero =>
    intro t ht
    refine r_iload_n (pc := 4) dX9_openScopes_4 rfl ?_
    refine r_aload_n (pc := 5) dX9_openScopes_5 rfl (by first | rfl | exact isRefV_rf _) ?_
    refine r_getf (pc := 6) dX9_openScopes_6 fX9_57 (by first | assumption | exact isI.gx (by assumption) | exact isI.gc (by assumption) | exact isW.gx (by assumption) | exact isW.gF (by assumption) | exact isW.gT (by assumption) (by omega) | exact isW.gS (by assumption) (by omega) | exact isW.gK (by assumption) (by omega) | exact isW.g1 (by assumption) | exact isW.g2 (by assumption) | exact isW.g3 (by assumption) | exact isI.gx (isW.i0 (by assumption)) | exact isI.gc (isW.i0 (by assumption)) | exact isI.gx (isW.i1 (by assumption)) | exact isI.gc (isW.i1 (by assumption)) | exact isI.gx (isW.i2 (by assumption)) | exact isI.gc (isW.i2 (by assumption)) | exact isI.gx (isW.i3 (by assumption)) | exact isI.gc (isW.i3 (by assumption)) | exact isI.gx (isW.i4 (by assumption)) | exact isI.gc (isW.i4 (by assumption)) | exact isI.gx (isW.i5 (by assumption)) | exact isI.gc (isW.i5 (by assumption)) | exact isR.gx (by assumption) | exact isRd.gx (by assumption) | exact isSp.gx (by assumption) | exact isI.gx (isR.i (by assumption)) | exact isI.gx (isRd.i (by assumption)) | exact isI.gc (isRd.i (by assumption)) | exact isI.gx (isSp.i (by assumption)) | exact isW.gx (isR.w (by assumption)) | exact isW.gF (isR.w (by assumption)) | fail "no such object") (by rfl) ?_
    refine rj_icmp_ge (pc := 9) (tgt := 29) dX9_openScopes_9 (by decide) (by first | exact b01_r | exact bz_r | omega | (constructor <;> omega) | apply_assumption | (apply atF_r; assumption) | fail "no range") (by first | exact b01_r | exact bz_r | omega | (constructor <;> omega) | apply_assumption | (apply atF_r; assumption) | fail "no range") (fun c_9 => ?_) (fun c_9 => ?_)
    · refine r_iload_n (pc := 29) dX9_openScopes_29 rfl ?_
      refine r_ireturn (pc := 30) .int dX9_openScopes_30 rfl (by first | rfl | assumption) ?_
      obtain rfl : t = N := by omega
      exact ⟨rfl, rfl⟩
    · exfalso
      first | omega | exact absurd trivial ‹¬ True›
  | succ k ih =>
    intro t ht
    refine r_iload_n (pc := 4) dX9_openScopes_4 rfl ?_
    refine r_aload_n (pc := 5) dX9_openScopes_5 rfl (by first | rfl | exact isRefV_rf _) ?_
    refine r_getf (pc := 6) dX9_openScopes_6 fX9_57 (by first | assumption | exact isI.gx (by assumption) | exact isI.gc (by assumption) | exact isW.gx (by assumption) | exact isW.gF (by assumption) | exact isW.gT (by assumption) (by omega) | exact isW.gS (by assumption) (by omega) | exact isW.gK (by assumption) (by omega) | exact isW.g1 (by assumption) | exact isW.g2 (by assumption) | exact isW.g3 (by assumption) | exact isI.gx (isW.i0 (by assumption)) | exact isI.gc (isW.i0 (by assumption)) | exact isI.gx (isW.i1 (by assumption)) | exact isI.gc (isW.i1 (by assumption)) | exact isI.gx (isW.i2 (by assumption)) | exact isI.gc (isW.i2 (by assumption)) | exact isI.gx (isW.i3 (by assumption)) | exact isI.gc (isW.i3 (by assumption)) | exact isI.gx (isW.i4 (by assumption)) | exact isI.gc (isW.i4 (by assumption)) | exact isI.gx (isW.i5 (by assumption)) | exact isI.gc (isW.i5 (by assumption)) | exact isR.gx (by assumption) | exact isRd.gx (by assumption) | exact isSp.gx (by assumption) | exact isI.gx (isR.i (by assumption)) | exact isI.gx (isRd.i (by assumption)) | exact isI.gc (isRd.i (by assumption)) | exact isI.gx (isSp.i (by assumption)) | exact isW.gx (isR.w (by assumption)) | exact isW.gF (isR.w (by assumption)) | fail "no such object") (by rfl) ?_
    refine rj_icmp_ge (pc := 9) (tgt := 29) dX9_openScopes_9 (by decide) (by first | exact b01_r | exact bz_r | omega | (constructor <;> omega) | apply_assumption | (apply atF_r; assumption) | fail "no range") (by first | exact b01_r | exact bz_r | omega | (constructor <;> omega) | apply_assumption | (apply atF_r; assumption) | fail "no range") (fun c_9 => ?_) (fun c_9 => ?_)
    · refine r_iload_n (pc := 29) dX9_openScopes_29 rfl ?_
      refine r_ireturn (pc := 30) .int dX9_openScopes_30 rfl (by first | rfl | assumption) ?_
      exfalso; omega
    · refine r_aload_n (pc := 12) dX9_openScopes_12 rfl (by first | rfl | exact isRefV_rf _) ?_
      refine r_iload_n (pc := 13) dX9_openScopes_13 rfl ?_
      refine r_callV1 (pc := 14) dX9_openScopes_14 qX9_isOpen kX9_154 vX9_isOpen (by first | assumption | exact isI.gx (by assumption) | exact isI.gc (by assumption) | exact isW.gx (by assumption) | exact isW.gF (by assumption) | exact isW.gT (by assumption) (by omega) | exact isW.gS (by assumption) (by omega) | exact isW.gK (by assumption) (by omega) | exact isW.g1 (by assumption) | exact isW.g2 (by assumption) | exact isW.g3 (by assumption) | exact isI.gx (isW.i0 (by assumption)) | exact isI.gc (isW.i0 (by assumption)) | exact isI.gx (isW.i1 (by assumption)) | exact isI.gc (isW.i1 (by assumption)) | exact isI.gx (isW.i2 (by assumption)) | exact isI.gc (isW.i2 (by assumption)) | exact isI.gx (isW.i3 (by assumption)) | exact isI.gc (isW.i3 (by assumption)) | exact isI.gx (isW.i4 (by assumption)) | exact isI.gc (isW.i4 (by assumption)) | exact isI.gx (isW.i5 (by assumption)) | exact isI.gc (isW.i5 (by assumption)) | exact isR.gx (by assumption) | exact isRd.gx (by assumption) | exact isSp.gx (by assumption) | exact isI.gx (isR.i (by assumption)) | exact isI.gx (isRd.i (by assumption)) | exact isI.gc (isRd.i (by assumption)) | exact isI.gx (isSp.i (by assumption)) | exact isW.gx (isR.w (by assumption)) | exact isW.gF (isR.w (by assumption)) | fail "no such object") rfl rfl (Nat.le_of_ble_eq_true rfl) (cw_isOpen _ hW hc (i := (t : Int)) ⟨by omega, by omega⟩) (fun v_14 h_14 q_14 => ?_)
      obtain ⟨rfl, rfl⟩ := q_14
      refine rj_if_eq (pc := 17) (tgt := 23) dX9_openScopes_17 (by decide) (by first | exact b01_r | exact bz_r | omega | (constructor <;> omega) | apply_assumption | (apply atF_r; assumption) | fail "no range") (fun c_17 => ?_) (fun c_17 => ?_)
      · try simp only [b01_0, bz_0, Classical.not_not] at c_17
        refine rj_iinc (pc := 23) dX9_openScopes_23 (Nat.le_of_ble_eq_true rfl) rfl ?_
        dsimp only [lsSt, List.set, mLs, mEnt]
        refine r_goto (pc := 26) (tgt := 4) dX9_openScopes_26 (by decide) ?_
        have z := ih (t + 1) (by omega)
        rw [← cnt_f (by simp only [opW]; rw [show ((t : Int)).toNat = t by omega] at c_17; exact decide_eq_false (fun q => c_17 ⟨by omega, q⟩))] at z
        rw [Int.add_zero] at z
        exact z
      · try simp only [b01_0, bz_0, Classical.not_not] at c_17
        refine rj_iinc (pc := 20) dX9_openScopes_20 (Nat.le_of_ble_eq_true rfl) rfl ?_
        dsimp only [lsSt, List.set, mLs, mEnt]
        refine rj_iinc (pc := 23) dX9_openScopes_23 (Nat.le_of_ble_eq_true rfl) rfl ?_
        dsimp only [lsSt, List.set, mLs, mEnt]
        refine r_goto (pc := 26) (tgt := 4) dX9_openScopes_26 (by decide) ?_
        have z := ih (t + 1) (by omega)
        rw [← cnt_t (by simp only [opW]; rw [show ((t : Int)).toNat = t by omega] at c_17; exact decide_eq_true c_17.2)] at z
        exact z
set_option maxHeartbeats 4000000 in
set_option maxRecDepth 100000 in
theorem cw_openScopes {G : mG} {l : Launch} (d : Nat) {h : mH} {w : Nat} {c : Nat → Int} {C : Nat → Nat → Int} {nm : Nat → Int64} {g : Nat → Option Nat} (hW : isW h w c C nm g) (hc : ∀ q, InR (c q)) {N : Nat} (hN : c 1 = (N : Int)) (hcap : N ≤ 60) : RUNM G l (d + 2) mX9_openScopes [.ref w] h (fun v h' => v = some (.int (J (cnt (opW c) N))) ∧ h' = h) := by
  refine RUNM.of (by decide +kernel) (Nat.le_of_ble_eq_true rfl) ?_
  refine rj_iconst (pc := 0) dX9_openScopes_0 ?_
  refine r_istore_n (pc := 1) dX9_openScopes_1 (Nat.le_of_ble_eq_true rfl) ?_
  dsimp only [lsSt, List.set, mLs, mEnt]
  refine rj_iconst (pc := 2) dX9_openScopes_2 ?_
  refine r_istore_n (pc := 3) dX9_openScopes_3 (Nat.le_of_ble_eq_true rfl) ?_
  dsimp only [lsSt, List.set, mLs, mEnt]
  exact L_openScopes d hW hc hN hcap N 0 (by omega)
set_option maxHeartbeats 4000000 in
set_option maxRecDepth 100000 in
theorem cw_beginCall {G : mG} {l : Launch} (d : Nat) {h : mH} {w : Nat} {c : Nat → Int} {C : Nat → Nat → Int} {nm : Nat → Int64} {g : Nat → Option Nat} (hW : isW h w c C nm g) (hc : ∀ q, InR (c q)) : RUNM G l (d) mX0_beginCall [.ref (wA w 10)] h (fun v h' => v = none ∧ isW h' w (updI c 4 (c 11)) C nm g ∧ Same (wBlk w) h h') := by
  refine RUNM.of (by decide +kernel) (Nat.le_of_ble_eq_true rfl) ?_
  refine r_aload_n (pc := 0) dX0_beginCall_0 rfl (by first | rfl | exact isRefV_rf _) ?_
  refine r_aload_n (pc := 1) dX0_beginCall_1 rfl (by first | rfl | exact isRefV_rf _) ?_
  refine r_getf (pc := 2) dX0_beginCall_2 fX0_14 (by first | assumption | exact isI.gx (by assumption) | exact isI.gc (by assumption) | exact isW.gx (by assumption) | exact isW.gF (by assumption) | exact isW.gT (by assumption) (by omega) | exact isW.gS (by assumption) (by omega) | exact isW.gK (by assumption) (by omega) | exact isW.g1 (by assumption) | exact isW.g2 (by assumption) | exact isW.g3 (by assumption) | exact isI.gx (isW.i0 (by assumption)) | exact isI.gc (isW.i0 (by assumption)) | exact isI.gx (isW.i1 (by assumption)) | exact isI.gc (isW.i1 (by assumption)) | exact isI.gx (isW.i2 (by assumption)) | exact isI.gc (isW.i2 (by assumption)) | exact isI.gx (isW.i3 (by assumption)) | exact isI.gc (isW.i3 (by assumption)) | exact isI.gx (isW.i4 (by assumption)) | exact isI.gc (isW.i4 (by assumption)) | exact isI.gx (isW.i5 (by assumption)) | exact isI.gc (isW.i5 (by assumption)) | exact isR.gx (by assumption) | exact isRd.gx (by assumption) | exact isSp.gx (by assumption) | exact isI.gx (isR.i (by assumption)) | exact isI.gx (isRd.i (by assumption)) | exact isI.gc (isRd.i (by assumption)) | exact isI.gx (isSp.i (by assumption)) | exact isW.gx (isR.w (by assumption)) | exact isW.gF (isR.w (by assumption)) | fail "no such object") (by rfl) ?_
  refine r_getf (pc := 5) dX0_beginCall_5 fX0_30 (by first | assumption | exact isI.gx (by assumption) | exact isI.gc (by assumption) | exact isW.gx (by assumption) | exact isW.gF (by assumption) | exact isW.gT (by assumption) (by omega) | exact isW.gS (by assumption) (by omega) | exact isW.gK (by assumption) (by omega) | exact isW.g1 (by assumption) | exact isW.g2 (by assumption) | exact isW.g3 (by assumption) | exact isI.gx (isW.i0 (by assumption)) | exact isI.gc (isW.i0 (by assumption)) | exact isI.gx (isW.i1 (by assumption)) | exact isI.gc (isW.i1 (by assumption)) | exact isI.gx (isW.i2 (by assumption)) | exact isI.gc (isW.i2 (by assumption)) | exact isI.gx (isW.i3 (by assumption)) | exact isI.gc (isW.i3 (by assumption)) | exact isI.gx (isW.i4 (by assumption)) | exact isI.gc (isW.i4 (by assumption)) | exact isI.gx (isW.i5 (by assumption)) | exact isI.gc (isW.i5 (by assumption)) | exact isR.gx (by assumption) | exact isRd.gx (by assumption) | exact isSp.gx (by assumption) | exact isI.gx (isR.i (by assumption)) | exact isI.gx (isRd.i (by assumption)) | exact isI.gc (isRd.i (by assumption)) | exact isI.gx (isSp.i (by assumption)) | exact isW.gx (isR.w (by assumption)) | exact isW.gF (isR.w (by assumption)) | fail "no such object") (by rfl) ?_
  refine rc_putF (pc := 8) dX0_beginCall_8 fX0_34 (by assumption) (fun h_8 hW_8 hS_8 => ?_)
  refine r_return (pc := 11) dX0_beginCall_11 rfl ?_
  exact ⟨rfl, hW_8, hS_8⟩

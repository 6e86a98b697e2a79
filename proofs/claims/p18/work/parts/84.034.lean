section mg_87
set_option maxHeartbeats 4000000 in
set_option maxRecDepth 100000 in
theorem L_scopesNotShutOf {G : mG} {l : Launch} (d : Nat) {h : mH} {w : Nat} {c : Nat → Int} {C : Nat → Nat → Int} {nm : Nat → Int64} {g : Nat → Option Nat} (hW : isW h w c C nm g) (hc : ∀ q, InR (c q)) {S : Nat} (hS : c 1 = (S : Int)) (hcapS : S ≤ 60) {i : Int} (hi : InR i) : ∀ (k t : Nat) (o0 : Option Value), t + k = S → RUN G l (d + 1) mX9_scopesNotShutOf 4 [some (.ref w), some (.int (J i)), some (.int (J (cnt (nsB c i) t))), some (.int (J (t : Int))), o0] [] h (fun v h' => v = some (.int (J (cnt (nsB c i) S))) ∧ h' = h) := by
  intro k
  induction k with
  | zero =>
    intro t o0 ht
    refine r_iload_n (pc := 4) dX9_scopesNotShutOf_4 rfl ?_
    refine r_aload_n (pc := 5) dX9_scopesNotShutOf_5 rfl (by first | rfl | exact isRefV_rf _) ?_
    refine r_getf (pc := 6) dX9_scopesNotShutOf_6 fX9_57 (by first | assumption | exact isI.gx (by assumption) | exact isI.gc (by assumption) | exact isW.gx (by assumption) | exact isW.gF (by assumption) | exact isW.gT (by assumption) (by omega) | exact isW.gS (by assumption) (by omega) | exact isW.gK (by assumption) (by omega) | exact isW.g1 (by assumption) | exact isW.g2 (by assumption) | exact isW.g3 (by assumption) | exact isI.gx (isW.i0 (by assumption)) | exact isI.gc (isW.i0 (by assumption)) | exact isI.gx (isW.i1 (by assumption)) | exact isI.gc (isW.i1 (by assumption)) | exact isI.gx (isW.i2 (by assumption)) | exact isI.gc (isW.i2 (by assumption)) | exact isI.gx (isW.i3 (by assumption)) | exact isI.gc (isW.i3 (by assumption)) | exact isI.gx (isW.i4 (by assumption)) | exact isI.gc (isW.i4 (by assumption)) | exact isI.gx (isW.i5 (by assumption)) | exact isI.gc (isW.i5 (by assumption)) | exact isR.gx (by assumption) | exact isRd.gx (by assumption) | exact isSp.gx (by assumption) | exact isI.gx (isR.i (by assumption)) | exact isI.gx (isRd.i (by assumption)) | exact isI.gc (isRd.i (by assumption)) | exact isI.gx (isSp.i (by assumption)) | exact isW.gx (isR.w (by assumption)) | exact isW.gF (isR.w (by assumption)) | fail "no such object") (by rfl) ?_
    refine rj_icmp_ge (pc := 9) (tgt := 51) dX9_scopesNotShutOf_9 (by decide) (by first | exact b01_r | exact bz_r | omega | (constructor <;> omega) | apply_assumption | (apply atF_r; assumption) | fail "no range") (by first | exact b01_r | exact bz_r | omega | (constructor <;> omega) | apply_assumption | (apply atF_r; assumption) | fail "no range") (fun c_9 => ?_) (fun c_9 => ?_)
    · refine r_iload_n (pc := 51) dX9_scopesNotShutOf_51 rfl ?_
      refine r_ireturn (pc := 52) .int dX9_scopesNotShutOf_52 rfl (by first | rfl | assumption) ?_
      obtain rfl : t = S := by omega
      exact ⟨rfl, rfl⟩
    · exfalso; omega
  | succ k ih =>
    intro t o0 ht
    refine r_iload_n (pc := 4) dX9_scopesNotShutOf_4 rfl ?_
    refine r_aload_n (pc := 5) dX9_scopesNotShutOf_5 rfl (by first | rfl | exact isRefV_rf _) ?_
    refine r_getf (pc := 6) dX9_scopesNotShutOf_6 fX9_57 (by first | assumption | exact isI.gx (by assumption) | exact isI.gc (by assumption) | exact isW.gx (by assumption) | exact isW.gF (by assumption) | exact isW.gT (by assumption) (by omega) | exact isW.gS (by assumption) (by omega) | exact isW.gK (by assumption) (by omega) | exact isW.g1 (by assumption) | exact isW.g2 (by assumption) | exact isW.g3 (by assumption) | exact isI.gx (isW.i0 (by assumption)) | exact isI.gc (isW.i0 (by assumption)) | exact isI.gx (isW.i1 (by assumption)) | exact isI.gc (isW.i1 (by assumption)) | exact isI.gx (isW.i2 (by assumption)) | exact isI.gc (isW.i2 (by assumption)) | exact isI.gx (isW.i3 (by assumption)) | exact isI.gc (isW.i3 (by assumption)) | exact isI.gx (isW.i4 (by assumption)) | exact isI.gc (isW.i4 (by assumption)) | exact isI.gx (isW.i5 (by assumption)) | exact isI.gc (isW.i5 (by assumption)) | exact isR.gx (by assumption) | exact isRd.gx (by assumption) | exact isSp.gx (by assumption) | exact isI.gx (isR.i (by assumption)) | exact isI.gx (isRd.i (by assumption)) | exact isI.gc (isRd.i (by assumption)) | exact isI.gx (isSp.i (by assumption)) | exact isW.gx (isR.w (by assumption)) | exact isW.gF (isR.w (by assumption)) | fail "no such object") (by rfl) ?_
    refine rj_icmp_ge (pc := 9) (tgt := 51) dX9_scopesNotShutOf_9 (by decide) (by first | exact b01_r | exact bz_r | omega | (constructor <;> omega) | apply_assumption | (apply atF_r; assumption) | fail "no range") (by first | exact b01_r | exact bz_r | omega | (constructor <;> omega) | apply_assumption | (apply atF_r; assumption) | fail "no range") (fun c_9 => ?_) (fun c_9 => ?_)
    · refine r_iload_n (pc := 51) dX9_scopesNotShutOf_51 rfl ?_
      refine r_ireturn (pc := 52) .int dX9_scopesNotShutOf_52 rfl (by first | rfl | assumption) ?_
      exfalso; omega
    · refine r_aload_n (pc := 12) dX9_scopesNotShutOf_12 rfl (by first | rfl | exact isRefV_rf _) ?_
      refine r_iload_n (pc := 13) dX9_scopesNotShutOf_13 rfl ?_
      refine r_callV1 (pc := 14) dX9_scopesNotShutOf_14 qX9_scopeAt kX9_61 vX9_scopeAt (by first | assumption | exact isI.gx (by assumption) | exact isI.gc (by assumption) | exact isW.gx (by assumption) | exact isW.gF (by assumption) | exact isW.gT (by assumption) (by omega) | exact isW.gS (by assumption) (by omega) | exact isW.gK (by assumption) (by omega) | exact isW.g1 (by assumption) | exact isW.g2 (by assumption) | exact isW.g3 (by assumption) | exact isI.gx (isW.i0 (by assumption)) | exact isI.gc (isW.i0 (by assumption)) | exact isI.gx (isW.i1 (by assumption)) | exact isI.gc (isW.i1 (by assumption)) | exact isI.gx (isW.i2 (by assumption)) | exact isI.gc (isW.i2 (by assumption)) | exact isI.gx (isW.i3 (by assumption)) | exact isI.gc (isW.i3 (by assumption)) | exact isI.gx (isW.i4 (by assumption)) | exact isI.gc (isW.i4 (by assumption)) | exact isI.gx (isW.i5 (by assumption)) | exact isI.gc (isW.i5 (by assumption)) | exact isR.gx (by assumption) | exact isRd.gx (by assumption) | exact isSp.gx (by assumption) | exact isI.gx (isR.i (by assumption)) | exact isI.gx (isRd.i (by assumption)) | exact isI.gc (isRd.i (by assumption)) | exact isI.gx (isSp.i (by assumption)) | exact isW.gx (isR.w (by assumption)) | exact isW.gF (isR.w (by assumption)) | fail "no such object") rfl rfl (Nat.le_of_ble_eq_true rfl) (cw_scopeAt _ hW hc (i := (t : Int)) ⟨by omega, by omega⟩) (fun v_14 h_14 q_14 => ?_)
      obtain ⟨q1_14, rfl⟩ := q_14
      · obtain rfl := scAt_P (by omega) q1_14
        refine r_astore (pc := 17) dX9_scopesNotShutOf_17 (Nat.le_of_ble_eq_true rfl) (by first | rfl | exact isRefV_rf _) ?_
        dsimp only [lsSt, List.set, mLs, mEnt]
        refine r_aload (pc := 19) dX9_scopesNotShutOf_19 rfl (by first | rfl | exact isRefV_rf _) ?_
        refine r_ifnull (pc := 21) (tgt := 45) dX9_scopesNotShutOf_21 (by decide) (by first | rfl | exact isRefV_rf _) (fun c_21 => by cases c_21) (fun a_21 c_21 => ?_)
        refine r_aload (pc := 24) dX9_scopesNotShutOf_24 rfl (by first | rfl | exact isRefV_rf _) ?_
        refine r_getf (pc := 26) dX9_scopesNotShutOf_26 fX9_68 (by first | assumption | exact isI.gx (by assumption) | exact isI.gc (by assumption) | exact isW.gx (by assumption) | exact isW.gF (by assumption) | exact isW.gT (by assumption) (by omega) | exact isW.gS (by assumption) (by omega) | exact isW.gK (by assumption) (by omega) | exact isW.g1 (by assumption) | exact isW.g2 (by assumption) | exact isW.g3 (by assumption) | exact isI.gx (isW.i0 (by assumption)) | exact isI.gc (isW.i0 (by assumption)) | exact isI.gx (isW.i1 (by assumption)) | exact isI.gc (isW.i1 (by assumption)) | exact isI.gx (isW.i2 (by assumption)) | exact isI.gc (isW.i2 (by assumption)) | exact isI.gx (isW.i3 (by assumption)) | exact isI.gc (isW.i3 (by assumption)) | exact isI.gx (isW.i4 (by assumption)) | exact isI.gc (isW.i4 (by assumption)) | exact isI.gx (isW.i5 (by assumption)) | exact isI.gc (isW.i5 (by assumption)) | exact isR.gx (by assumption) | exact isRd.gx (by assumption) | exact isSp.gx (by assumption) | exact isI.gx (isR.i (by assumption)) | exact isI.gx (isRd.i (by assumption)) | exact isI.gc (isRd.i (by assumption)) | exact isI.gx (isSp.i (by assumption)) | exact isW.gx (isR.w (by assumption)) | exact isW.gF (isR.w (by assumption)) | fail "no such object") (by rfl) ?_
        refine r_iload_n (pc := 29) dX9_scopesNotShutOf_29 rfl ?_
        refine rj_icmp_ne (pc := 30) (tgt := 45) dX9_scopesNotShutOf_30 (by decide) (by first | exact b01_r | exact bz_r | omega | (constructor <;> omega) | apply_assumption | (apply atF_r; assumption) | fail "no range") (by first | exact b01_r | exact bz_r | omega | (constructor <;> omega) | apply_assumption | (apply atF_r; assumption) | fail "no range") (fun c_30 => ?_) (fun c_30 => ?_)
        · refine rj_iinc (pc := 45) dX9_scopesNotShutOf_45 (Nat.le_of_ble_eq_true rfl) rfl ?_
          dsimp only [lsSt, List.set, mLs, mEnt]
          refine r_goto (pc := 48) (tgt := 4) dX9_scopesNotShutOf_48 (by decide) ?_
          have e1 : ((t + 1 : Nat) : Int) = (t : Int) + 1 := by omega
          have e2 := cnt_f (p := nsB c i) (n := t) (decide_eq_false (fun g => c_30 g.1))
          rw [Int.add_zero] at e2
          have z := fun o0 => ih (t + 1) o0 (by omega)
          simp only [e1, ← e2] at z
          exact z _
        · refine r_aload (pc := 33) dX9_scopesNotShutOf_33 rfl (by first | rfl | exact isRefV_rf _) ?_
          refine r_getf (pc := 35) dX9_scopesNotShutOf_35 fX9_127 (by first | assumption | exact isI.gx (by assumption) | exact isI.gc (by assumption) | exact isW.gx (by assumption) | exact isW.gF (by assumption) | exact isW.gT (by assumption) (by omega) | exact isW.gS (by assumption) (by omega) | exact isW.gK (by assumption) (by omega) | exact isW.g1 (by assumption) | exact isW.g2 (by assumption) | exact isW.g3 (by assumption) | exact isI.gx (isW.i0 (by assumption)) | exact isI.gc (isW.i0 (by assumption)) | exact isI.gx (isW.i1 (by assumption)) | exact isI.gc (isW.i1 (by assumption)) | exact isI.gx (isW.i2 (by assumption)) | exact isI.gc (isW.i2 (by assumption)) | exact isI.gx (isW.i3 (by assumption)) | exact isI.gc (isW.i3 (by assumption)) | exact isI.gx (isW.i4 (by assumption)) | exact isI.gc (isW.i4 (by assumption)) | exact isI.gx (isW.i5 (by assumption)) | exact isI.gc (isW.i5 (by assumption)) | exact isR.gx (by assumption) | exact isRd.gx (by assumption) | exact isSp.gx (by assumption) | exact isI.gx (isR.i (by assumption)) | exact isI.gx (isRd.i (by assumption)) | exact isI.gc (isRd.i (by assumption)) | exact isI.gx (isSp.i (by assumption)) | exact isW.gx (isR.w (by assumption)) | exact isW.gF (isR.w (by assumption)) | fail "no such object") (by rfl) ?_
          refine rj_iconst (pc := 38) dX9_scopesNotShutOf_38 ?_
          refine rj_icmp_eq (pc := 39) (tgt := 45) dX9_scopesNotShutOf_39 (by decide) (by first | exact b01_r | exact bz_r | omega | (constructor <;> omega) | apply_assumption | (apply atF_r; assumption) | fail "no range") (by first | exact b01_r | exact bz_r | omega | (constructor <;> omega) | apply_assumption | (apply atF_r; assumption) | fail "no range") (fun c_39 => ?_) (fun c_39 => ?_)
          · refine rj_iinc (pc := 45) dX9_scopesNotShutOf_45 (Nat.le_of_ble_eq_true rfl) rfl ?_
            dsimp only [lsSt, List.set, mLs, mEnt]
            refine r_goto (pc := 48) (tgt := 4) dX9_scopesNotShutOf_48 (by decide) ?_
            have e1 : ((t + 1 : Nat) : Int) = (t : Int) + 1 := by omega
            have e2 := cnt_f (p := nsB c i) (n := t) (decide_eq_false (fun g => g.2 c_39))
            rw [Int.add_zero] at e2
            have z := fun o0 => ih (t + 1) o0 (by omega)
            simp only [e1, ← e2] at z
            exact z _
          · refine rj_iinc (pc := 42) dX9_scopesNotShutOf_42 (Nat.le_of_ble_eq_true rfl) rfl ?_
            dsimp only [lsSt, List.set, mLs, mEnt]
            refine rj_iinc (pc := 45) dX9_scopesNotShutOf_45 (Nat.le_of_ble_eq_true rfl) rfl ?_
            dsimp only [lsSt, List.set, mLs, mEnt]
            refine r_goto (pc := 48) (tgt := 4) dX9_scopesNotShutOf_48 (by decide) ?_
            have e1 : ((t + 1 : Nat) : Int) = (t : Int) + 1 := by omega
            have e2 := cnt_t (p := nsB c i) (n := t) (decide_eq_true (⟨c_30, c_39⟩))
            have z := fun o0 => ih (t + 1) o0 (by omega)
            simp only [e1, ← e2] at z
            exact z _
end mg_87

section mg_85
set_option maxHeartbeats 4000000 in
set_option maxRecDepth 100000 in
theorem L_isWithin {G : mG} {l : Launch} (d : Nat) {h : mH} {w : Nat} {c : Nat → Int} {C : Nat → Nat → Int} {nm : Nat → Int64} {g : Nat → Option Nat} (hW : isW h w c C nm g) (hc : ∀ q, InR (c q)) (hO : oOk c) {i o : Int} (ho : InR o) : ∀ (n k : Nat) (s : Int), k + n = 60 → -5 ≤ s → s ≤ 59 → RUN G l (d + 2) mX9_isWithin 5 [some (.ref w), some (.int (J i)), some (.int (J o)), some (.int (J s)), some (.int (J (k : Int)))] [] h (fun v h' => v = some (.int (J (bz (wiL c o n s)))) ∧ h' = h) := by
  intro n
  induction n with
  | zero =>
    intro k s hk h1 h2
    refine r_iload (pc := 5) dX9_isWithin_5 rfl ?_
    refine rj_bipush (pc := 7) dX9_isWithin_7 (by decide +kernel) ?_
    refine rj_icmp_ge (pc := 9) (tgt := 38) dX9_isWithin_9 (by decide) (by first | exact b01_r | exact bz_r | omega | (constructor <;> omega) | apply_assumption | (apply atF_r; assumption) | fail "no range") (by first | exact b01_r | exact bz_r | omega | (constructor <;> omega) | apply_assumption | (apply atF_r; assumption) | fail "no range") (fun c_9 => ?_) (fun c_9 => ?_)
    · refine rj_iconst (pc := 38) dX9_isWithin_38 ?_
      refine r_ireturn (pc := 39) .boolean dX9_isWithin_39 rfl (by first | exact nar_J0 | exact nar_J1 | exact nar_b01 | exact nar_bz) ?_
      exact ⟨rfl, rfl⟩
    · exfalso; omega
  | succ n ih =>
    intro k s hk h1 h2
    refine r_iload (pc := 5) dX9_isWithin_5 rfl ?_
    refine rj_bipush (pc := 7) dX9_isWithin_7 (by decide +kernel) ?_
    refine rj_icmp_ge (pc := 9) (tgt := 38) dX9_isWithin_9 (by decide) (by first | exact b01_r | exact bz_r | omega | (constructor <;> omega) | apply_assumption | (apply atF_r; assumption) | fail "no range") (by first | exact b01_r | exact bz_r | omega | (constructor <;> omega) | apply_assumption | (apply atF_r; assumption) | fail "no range") (fun c_9 => ?_) (fun c_9 => ?_)
    · refine rj_iconst (pc := 38) dX9_isWithin_38 ?_
      refine r_ireturn (pc := 39) .boolean dX9_isWithin_39 rfl (by first | exact nar_J0 | exact nar_J1 | exact nar_b01 | exact nar_bz) ?_
      first | exact absurd c_9 (by omega) | exact ⟨by rw [wiL, if_pos (by omega), if_pos c_18]; rfl, rfl⟩ | exact ⟨by rw [wiL, if_neg (by omega)]; rfl, rfl⟩
    · refine r_iload_n (pc := 12) dX9_isWithin_12 rfl ?_
      refine rj_if_lt (pc := 13) (tgt := 38) dX9_isWithin_13 (by decide) (by first | exact b01_r | exact bz_r | omega | (constructor <;> omega) | apply_assumption | (apply atF_r; assumption) | fail "no range") (fun c_13 => ?_) (fun c_13 => ?_)
      · refine rj_iconst (pc := 38) dX9_isWithin_38 ?_
        refine r_ireturn (pc := 39) .boolean dX9_isWithin_39 rfl (by first | exact nar_J0 | exact nar_J1 | exact nar_b01 | exact nar_bz) ?_
        first | exact absurd c_9 (by omega) | exact ⟨by rw [wiL, if_pos (by omega), if_pos c_18]; rfl, rfl⟩ | exact ⟨by rw [wiL, if_neg (by omega)]; rfl, rfl⟩
      · refine r_iload_n (pc := 16) dX9_isWithin_16 rfl ?_
        refine r_iload_n (pc := 17) dX9_isWithin_17 rfl ?_
        refine rj_icmp_ne (pc := 18) (tgt := 23) dX9_isWithin_18 (by decide) (by first | exact b01_r | exact bz_r | omega | (constructor <;> omega) | apply_assumption | (apply atF_r; assumption) | fail "no range") (by first | exact b01_r | exact bz_r | omega | (constructor <;> omega) | apply_assumption | (apply atF_r; assumption) | fail "no range") (fun c_18 => ?_) (fun c_18 => ?_)
        · refine r_aload_n (pc := 23) dX9_isWithin_23 rfl (by first | rfl | exact isRefV_rf _) ?_
          refine rj_bipush (pc := 24) dX9_isWithin_24 (by decide +kernel) ?_
          refine r_iload_n (pc := 26) dX9_isWithin_26 rfl ?_
          refine rj_iadd (pc := 27) dX9_isWithin_27 ?_
          refine r_callV1 (pc := 28) dX9_isWithin_28 qX9_ownerOf kX9_151 vX9_ownerOf (by first | assumption | exact isI.gx (by assumption) | exact isI.gc (by assumption) | exact isW.gx (by assumption) | exact isW.gF (by assumption) | exact isW.gT (by assumption) (by omega) | exact isW.gS (by assumption) (by omega) | exact isW.gK (by assumption) (by omega) | exact isW.g1 (by assumption) | exact isW.g2 (by assumption) | exact isW.g3 (by assumption) | exact isI.gx (isW.i0 (by assumption)) | exact isI.gc (isW.i0 (by assumption)) | exact isI.gx (isW.i1 (by assumption)) | exact isI.gc (isW.i1 (by assumption)) | exact isI.gx (isW.i2 (by assumption)) | exact isI.gc (isW.i2 (by assumption)) | exact isI.gx (isW.i3 (by assumption)) | exact isI.gc (isW.i3 (by assumption)) | exact isI.gx (isW.i4 (by assumption)) | exact isI.gc (isW.i4 (by assumption)) | exact isI.gx (isW.i5 (by assumption)) | exact isI.gc (isW.i5 (by assumption)) | exact isR.gx (by assumption) | exact isRd.gx (by assumption) | exact isSp.gx (by assumption) | exact isI.gx (isR.i (by assumption)) | exact isI.gx (isRd.i (by assumption)) | exact isI.gc (isRd.i (by assumption)) | exact isI.gx (isSp.i (by assumption)) | exact isW.gx (isR.w (by assumption)) | exact isW.gF (isR.w (by assumption)) | fail "no such object") rfl rfl (Nat.le_of_ble_eq_true rfl) (cw_ownerOf _ hW hc (i := 100 + s) ⟨by omega, by omega⟩) (fun v_28 h_28 q_28 => ?_)
          obtain ⟨rfl, rfl⟩ := q_28
          refine r_istore_n (pc := 31) dX9_isWithin_31 (Nat.le_of_ble_eq_true rfl) ?_
          dsimp only [lsSt, List.set, mLs, mEnt]
          refine rj_iinc (pc := 32) dX9_isWithin_32 (Nat.le_of_ble_eq_true rfl) rfl ?_
          dsimp only [lsSt, List.set, mLs, mEnt]
          refine r_goto (pc := 35) (tgt := 5) dX9_isWithin_35 (by decide) ?_
          have z := hO (100 + s)
          have y := ih (k + 1) _ (by omega) z.1 z.2
          rw [show ((k + 1 : Nat) : Int) = (k : Int) + 1 by omega] at y
          rw [wiL, if_pos (by omega), if_neg c_18]
          exact y
        · refine rj_iconst (pc := 21) dX9_isWithin_21 ?_
          refine r_ireturn (pc := 22) .boolean dX9_isWithin_22 rfl (by first | exact nar_J0 | exact nar_J1 | exact nar_b01 | exact nar_bz) ?_
          first | exact absurd c_9 (by omega) | exact ⟨by rw [wiL, if_pos (by omega), if_pos c_18]; rfl, rfl⟩ | exact ⟨by rw [wiL, if_neg (by omega)]; rfl, rfl⟩
end mg_85

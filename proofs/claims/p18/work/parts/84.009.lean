section mg_85
set_option maxHeartbeats 4000000 in
set_option maxRecDepth 100000 in
theorem L_scopesAbove {G : mG} {l : Launch} (d : Nat) {h : mH} {w : Nat} {c : Nat → Int} {C : Nat → Nat → Int} {nm : Nat → Int64} {g : Nat → Option Nat} (hW : isW h w c C nm g) (hc : ∀ q, InR (c q)) (hO : oOk c) {i : Int} : ∀ (n k : Nat) (s : Int), k + n = 60 → -5 ≤ s → s ≤ 59 → RUN G l (d + 2) mX9_scopesAbove 11 [some (.ref w), some (.int (J i)), some (.int (J (k : Int))), some (.int (J s))] [] h (fun v h' => v = some (.int (J ((k : Int) + saL c n s))) ∧ h' = h) := by
  intro n
  induction n with
  | zero =>
    intro k s hk h1 h2
    refine r_iload_n (pc := 11) dX9_scopesAbove_11 rfl ?_
    refine rj_if_lt (pc := 12) (tgt := 36) dX9_scopesAbove_12 (by decide) (by first | exact b01_r | exact bz_r | omega | (constructor <;> omega) | apply_assumption | (apply atF_r; assumption) | fail "no range") (fun c_12 => ?_) (fun c_12 => ?_)
    · refine r_iload_n (pc := 36) dX9_scopesAbove_36 rfl ?_
      refine r_ireturn (pc := 37) .int dX9_scopesAbove_37 rfl (by first | rfl | assumption) ?_
      exact ⟨by unfold saL; rw [Int.add_zero], rfl⟩
    · refine r_iload_n (pc := 15) dX9_scopesAbove_15 rfl ?_
      refine rj_bipush (pc := 16) dX9_scopesAbove_16 (by decide +kernel) ?_
      refine rj_icmp_ge (pc := 18) (tgt := 36) dX9_scopesAbove_18 (by decide) (by first | exact b01_r | exact bz_r | omega | (constructor <;> omega) | apply_assumption | (apply atF_r; assumption) | fail "no range") (by first | exact b01_r | exact bz_r | omega | (constructor <;> omega) | apply_assumption | (apply atF_r; assumption) | fail "no range") (fun c_18 => ?_) (fun c_18 => ?_)
      · refine r_iload_n (pc := 36) dX9_scopesAbove_36 rfl ?_
        refine r_ireturn (pc := 37) .int dX9_scopesAbove_37 rfl (by first | rfl | assumption) ?_
        exact ⟨by unfold saL; rw [Int.add_zero], rfl⟩
      · exfalso; omega
  | succ n ih =>
    intro k s hk h1 h2
    refine r_iload_n (pc := 11) dX9_scopesAbove_11 rfl ?_
    refine rj_if_lt (pc := 12) (tgt := 36) dX9_scopesAbove_12 (by decide) (by first | exact b01_r | exact bz_r | omega | (constructor <;> omega) | apply_assumption | (apply atF_r; assumption) | fail "no range") (fun c_12 => ?_) (fun c_12 => ?_)
    · refine r_iload_n (pc := 36) dX9_scopesAbove_36 rfl ?_
      refine r_ireturn (pc := 37) .int dX9_scopesAbove_37 rfl (by first | rfl | assumption) ?_
      first | (exfalso; omega) | exact ⟨by rw [saL, if_neg (by omega), Int.add_zero], rfl⟩
    · refine r_iload_n (pc := 15) dX9_scopesAbove_15 rfl ?_
      refine rj_bipush (pc := 16) dX9_scopesAbove_16 (by decide +kernel) ?_
      refine rj_icmp_ge (pc := 18) (tgt := 36) dX9_scopesAbove_18 (by decide) (by first | exact b01_r | exact bz_r | omega | (constructor <;> omega) | apply_assumption | (apply atF_r; assumption) | fail "no range") (by first | exact b01_r | exact bz_r | omega | (constructor <;> omega) | apply_assumption | (apply atF_r; assumption) | fail "no range") (fun c_18 => ?_) (fun c_18 => ?_)
      · refine r_iload_n (pc := 36) dX9_scopesAbove_36 rfl ?_
        refine r_ireturn (pc := 37) .int dX9_scopesAbove_37 rfl (by first | rfl | assumption) ?_
        first | (exfalso; omega) | exact ⟨by rw [saL, if_neg (by omega), Int.add_zero], rfl⟩
      · refine r_aload_n (pc := 21) dX9_scopesAbove_21 rfl (by first | rfl | exact isRefV_rf _) ?_
        refine rj_bipush (pc := 22) dX9_scopesAbove_22 (by decide +kernel) ?_
        refine r_iload_n (pc := 24) dX9_scopesAbove_24 rfl ?_
        refine rj_iadd (pc := 25) dX9_scopesAbove_25 ?_
        refine r_callV1 (pc := 26) dX9_scopesAbove_26 qX9_ownerOf kX9_151 vX9_ownerOf (by first | assumption | exact isI.gx (by assumption) | exact isI.gc (by assumption) | exact isW.gx (by assumption) | exact isW.gF (by assumption) | exact isW.gT (by assumption) (by omega) | exact isW.gS (by assumption) (by omega) | exact isW.gK (by assumption) (by omega) | exact isW.g1 (by assumption) | exact isW.g2 (by assumption) | exact isW.g3 (by assumption) | exact isI.gx (isW.i0 (by assumption)) | exact isI.gc (isW.i0 (by assumption)) | exact isI.gx (isW.i1 (by assumption)) | exact isI.gc (isW.i1 (by assumption)) | exact isI.gx (isW.i2 (by assumption)) | exact isI.gc (isW.i2 (by assumption)) | exact isI.gx (isW.i3 (by assumption)) | exact isI.gc (isW.i3 (by assumption)) | exact isI.gx (isW.i4 (by assumption)) | exact isI.gc (isW.i4 (by assumption)) | exact isI.gx (isW.i5 (by assumption)) | exact isI.gc (isW.i5 (by assumption)) | exact isR.gx (by assumption) | exact isRd.gx (by assumption) | exact isSp.gx (by assumption) | exact isI.gx (isR.i (by assumption)) | exact isI.gx (isRd.i (by assumption)) | exact isI.gc (isRd.i (by assumption)) | exact isI.gx (isSp.i (by assumption)) | exact isW.gx (isR.w (by assumption)) | exact isW.gF (isR.w (by assumption)) | fail "no such object") rfl rfl (Nat.le_of_ble_eq_true rfl) (cw_ownerOf _ hW hc (i := 100 + s) ⟨by omega, by omega⟩) (fun v_26 h_26 q_26 => ?_)
        obtain ⟨rfl, rfl⟩ := q_26
        refine r_istore_n (pc := 29) dX9_scopesAbove_29 (Nat.le_of_ble_eq_true rfl) ?_
        dsimp only [lsSt, List.set, mLs, mEnt]
        refine rj_iinc (pc := 30) dX9_scopesAbove_30 (Nat.le_of_ble_eq_true rfl) rfl ?_
        dsimp only [lsSt, List.set, mLs, mEnt]
        refine r_goto (pc := 33) (tgt := 11) dX9_scopesAbove_33 (by decide) ?_
        have z := hO (100 + s)
        have y := ih (k + 1) _ (by omega) z.1 z.2
        rw [show ((k + 1 : Nat) : Int) = (k : Int) + 1 by omega] at y
        rw [show (k : Int) + saL c (n + 1) s = (k : Int) + 1 + saL c n (ownF c (100 + s)) by rw [saL, if_pos (by omega)]; omega]
        exact y
end mg_85

section mg_73
set_option maxHeartbeats 4000000 in
set_option maxRecDepth 100000 in
theorem L_judge {G : mG} {l : Launch} (d : Nat) {h : mH} {x s : Nat} {f4 f6 f8 f9 f10 f11 f12 f13 f14 f16 f18 : Int} {m kp was pool tape pln pap rwd rw : Nat → Int}(hB : isM h x (mFs x f4 f6 f8 f9 f10 f11 f12 f13 f14 f16 f18 s) m kp was pool tape pln pap rwd rw) (hok : mOk m) (hRo : ∀ q, InR (rwd q)) (hRw : ∀ q, InR (rw q)) (h40 : ∀ q, rwd q ≤ 40) {r i : Int} (hr : 0 ≤ r ∧ r ≤ 3) (hi : InR i) (hw0 : 0 ≤ rwd r.toNat) : ∀ (n k : Nat), (k : Int) + n = m 2 → RUN G l d mX11_judge 15 [some (.ref x), some (.int (J r)), some (.int (J i)), some (.int (J 0)), some (.int (J (k : Int)))] [] h (fun v h' => (∃ a, InR a ∧ v = some (.int (J a))) ∧ h' = h) := by
  obtain ⟨hM, k0, k1, k2, k3, k4, k5, k7⟩ := id hok
  have q1 := h40 r.toNat
  intro n
  induction n with
  | zero =>
    intro k hk
    have hB0 := hB
    dsimp only [mFs] at hB
    refine r_iload (pc := 15) dX11_judge_15 rfl ?_
    refine r_aload_n (pc := 17) dX11_judge_17 rfl (by first | rfl | exact isRefV_rf _) ?_
    refine rm_getf (pc := 18) dX11_judge_18 fX11_11 (by assumption) rfl ?_
    refine rj_iconst (pc := 21) dX11_judge_21 ?_
    refine rj_iald (pc := 22) (j := 2) dX11_judge_22 (by first | exact isM.g0 (by assumption) | exact isM.g3 (by assumption) | exact isM.g4 (by assumption) | exact isM.g8 (by assumption) | exact isM.g7 (by assumption) | exact isM.g6 (by assumption) | exact isM.g5 (by assumption) | exact isM.g1 (by assumption) | exact isM.g2 (by assumption)) (by first | assumption | exact b01_r | exact bz_r | omega | (constructor <;> omega) | exact hM _ | exact hPo _ | exact hTa _ | exact hRo _) (by first | assumption | exact b01_r | exact bz_r | omega | (constructor <;> omega) | exact hM _ | exact hPo _ | exact hTa _ | exact hRo _) (by first | assumption | exact b01_r | exact bz_r | omega | (constructor <;> omega) | exact hM _ | exact hPo _ | exact hTa _ | exact hRo _) (by omega) ?_
    refine rj_icmp_ge (pc := 23) (tgt := 87) dX11_judge_23 (by decide) (by first | assumption | exact b01_r | exact bz_r | omega | (constructor <;> omega) | exact hM _ | exact hPo _ | exact hTa _ | exact hRo _) (by first | assumption | exact b01_r | exact bz_r | omega | (constructor <;> omega) | exact hM _ | exact hPo _ | exact hTa _ | exact hRo _) (fun c_23 => ?_) (fun c_23 => ?_)
    · refine rj_bipush (pc := 87) dX11_judge_87 (by decide +kernel) ?_
      refine r_ireturn (pc := 89) .int dX11_judge_89 rfl (by first | rfl | assumption) ?_
      exact ⟨⟨_, by decide, rfl⟩, rfl⟩
    · exfalso; omega
  | succ n ih =>
    intro k hk
    have hB0 := hB
    dsimp only [mFs] at hB
    refine r_iload (pc := 15) dX11_judge_15 rfl ?_
    refine r_aload_n (pc := 17) dX11_judge_17 rfl (by first | rfl | exact isRefV_rf _) ?_
    refine rm_getf (pc := 18) dX11_judge_18 fX11_11 (by assumption) rfl ?_
    refine rj_iconst (pc := 21) dX11_judge_21 ?_
    refine rj_iald (pc := 22) (j := 2) dX11_judge_22 (by first | exact isM.g0 (by assumption) | exact isM.g3 (by assumption) | exact isM.g4 (by assumption) | exact isM.g8 (by assumption) | exact isM.g7 (by assumption) | exact isM.g6 (by assumption) | exact isM.g5 (by assumption) | exact isM.g1 (by assumption) | exact isM.g2 (by assumption)) (by first | assumption | exact b01_r | exact bz_r | omega | (constructor <;> omega) | exact hM _ | exact hPo _ | exact hTa _ | exact hRo _) (by first | assumption | exact b01_r | exact bz_r | omega | (constructor <;> omega) | exact hM _ | exact hPo _ | exact hTa _ | exact hRo _) (by first | assumption | exact b01_r | exact bz_r | omega | (constructor <;> omega) | exact hM _ | exact hPo _ | exact hTa _ | exact hRo _) (by omega) ?_
    refine rj_icmp_ge (pc := 23) (tgt := 87) dX11_judge_23 (by decide) (by first | assumption | exact b01_r | exact bz_r | omega | (constructor <;> omega) | exact hM _ | exact hPo _ | exact hTa _ | exact hRo _) (by first | assumption | exact b01_r | exact bz_r | omega | (constructor <;> omega) | exact hM _ | exact hPo _ | exact hTa _ | exact hRo _) (fun c_23 => ?_) (fun c_23 => ?_)
    · exfalso; omega
    · refine r_iload_n (pc := 26) dX11_judge_26 rfl ?_
      refine rj_if_lt (pc := 27) (tgt := 43) dX11_judge_27 (by decide) (by first | assumption | exact b01_r | exact bz_r | omega | (constructor <;> omega) | exact hM _ | exact hPo _ | exact hTa _ | exact hRo _) (fun c_27 => ?_) (fun c_27 => ?_)
      · refine rj_sipush (pc := 43) dX11_judge_43 (by decide +kernel) ?_
        refine r_iload (pc := 46) dX11_judge_46 rfl ?_
        refine rj_iadd (pc := 48) dX11_judge_48 ?_
        refine r_ireturn (pc := 49) .int dX11_judge_49 rfl (by first | rfl | assumption) ?_
        exact ⟨⟨_, ⟨by omega, by omega⟩, rfl⟩, rfl⟩
      · refine r_iload (pc := 30) dX11_judge_30 rfl ?_
        refine r_aload_n (pc := 32) dX11_judge_32 rfl (by first | rfl | exact isRefV_rf _) ?_
        refine rm_getf (pc := 33) dX11_judge_33 fX11_36 (by assumption) rfl ?_
        refine r_iload_n (pc := 36) dX11_judge_36 rfl ?_
        refine rj_iald (pc := 37) (j := r.toNat) dX11_judge_37 (by first | exact isM.g0 (by assumption) | exact isM.g3 (by assumption) | exact isM.g4 (by assumption) | exact isM.g8 (by assumption) | exact isM.g7 (by assumption) | exact isM.g6 (by assumption) | exact isM.g5 (by assumption) | exact isM.g1 (by assumption) | exact isM.g2 (by assumption)) (by first | assumption | exact b01_r | exact bz_r | omega | (constructor <;> omega) | exact hM _ | exact hPo _ | exact hTa _ | exact hRo _) (by first | assumption | exact b01_r | exact bz_r | omega | (constructor <;> omega) | exact hM _ | exact hPo _ | exact hTa _ | exact hRo _) (by first | assumption | exact b01_r | exact bz_r | omega | (constructor <;> omega) | exact hM _ | exact hPo _ | exact hTa _ | exact hRo _) (by omega) ?_
        refine r_iload_n (pc := 38) dX11_judge_38 rfl ?_
        refine rj_isub (pc := 39) dX11_judge_39 ?_
        refine rj_icmp_lt (pc := 40) (tgt := 50) dX11_judge_40 (by decide) (by first | assumption | exact b01_r | exact bz_r | omega | (constructor <;> omega) | exact hM _ | exact hPo _ | exact hTa _ | exact hRo _) (by first | assumption | exact b01_r | exact bz_r | omega | (constructor <;> omega) | exact hM _ | exact hPo _ | exact hTa _ | exact hRo _) (fun c_40 => ?_) (fun c_40 => ?_)
        · refine r_aload_n (pc := 50) dX11_judge_50 rfl (by first | rfl | exact isRefV_rf _) ?_
          refine rm_getf (pc := 51) dX11_judge_51 fX11_39 (by assumption) rfl ?_
          refine rj_bipush (pc := 54) dX11_judge_54 (by decide +kernel) ?_
          refine r_iload_n (pc := 56) dX11_judge_56 rfl ?_
          refine rj_imul (pc := 57) dX11_judge_57 ?_
          refine r_iload_n (pc := 58) dX11_judge_58 rfl ?_
          refine rj_iadd (pc := 59) dX11_judge_59 ?_
          refine r_iload (pc := 60) dX11_judge_60 rfl ?_
          refine rj_iadd (pc := 62) dX11_judge_62 ?_
          have ra := hRw ((40 * r + i).toNat + k)
          have rb := hM (1518 + k)
          refine rj_iald (pc := 63) (j := (40 * r + i).toNat + k) dX11_judge_63 (by first | exact isM.g0 (by assumption) | exact isM.g3 (by assumption) | exact isM.g4 (by assumption) | exact isM.g8 (by assumption) | exact isM.g7 (by assumption) | exact isM.g6 (by assumption) | exact isM.g5 (by assumption) | exact isM.g1 (by assumption) | exact isM.g2 (by assumption)) (by first | assumption | exact b01_r | exact bz_r | omega | (constructor <;> omega) | exact hM _ | exact hPo _ | exact hTa _ | exact hRo _) (by first | assumption | exact b01_r | exact bz_r | omega | (constructor <;> omega) | exact hM _ | exact hPo _ | exact hTa _ | exact hRo _) (by first | assumption | exact b01_r | exact bz_r | omega | (constructor <;> omega) | exact hM _ | exact hPo _ | exact hTa _ | exact hRo _) (by omega) ?_
          refine r_aload_n (pc := 64) dX11_judge_64 rfl (by first | rfl | exact isRefV_rf _) ?_
          refine rm_getf (pc := 65) dX11_judge_65 fX11_11 (by assumption) rfl ?_
          refine rj_sipush (pc := 68) dX11_judge_68 (by decide +kernel) ?_
          refine r_iload (pc := 71) dX11_judge_71 rfl ?_
          refine rj_iadd (pc := 73) dX11_judge_73 ?_
          refine rj_iald (pc := 74) (j := 1518 + k) dX11_judge_74 (by first | exact isM.g0 (by assumption) | exact isM.g3 (by assumption) | exact isM.g4 (by assumption) | exact isM.g8 (by assumption) | exact isM.g7 (by assumption) | exact isM.g6 (by assumption) | exact isM.g5 (by assumption) | exact isM.g1 (by assumption) | exact isM.g2 (by assumption)) (by first | assumption | exact b01_r | exact bz_r | omega | (constructor <;> omega) | exact hM _ | exact hPo _ | exact hTa _ | exact hRo _) (by first | assumption | exact b01_r | exact bz_r | omega | (constructor <;> omega) | exact hM _ | exact hPo _ | exact hTa _ | exact hRo _) (by first | assumption | exact b01_r | exact bz_r | omega | (constructor <;> omega) | exact hM _ | exact hPo _ | exact hTa _ | exact hRo _) (by omega) ?_
          refine rj_icmp_eq (pc := 75) (tgt := 81) dX11_judge_75 (by decide) (by first | assumption | exact b01_r | exact bz_r | omega | (constructor <;> omega) | exact hM _ | exact hPo _ | exact hTa _ | exact hRo _) (by first | assumption | exact b01_r | exact bz_r | omega | (constructor <;> omega) | exact hM _ | exact hPo _ | exact hTa _ | exact hRo _) (fun c_75 => ?_) (fun c_75 => ?_)
          · refine rj_iinc (pc := 81) dX11_judge_81 (Nat.le_of_ble_eq_true rfl) rfl ?_
            dsimp only [lsSt, List.set, mLs, mEnt]
            refine r_goto (pc := 84) (tgt := 15) dX11_judge_84 (by decide) ?_
            have y := ih (k + 1) (by omega)
            rw [show ((k + 1 : Nat) : Int) = (k : Int) + 1 by omega] at y
            exact y
          · refine r_iload (pc := 78) dX11_judge_78 rfl ?_
            refine r_ireturn (pc := 80) .int dX11_judge_80 rfl (by first | rfl | assumption) ?_
            exact ⟨⟨_, ⟨by omega, by omega⟩, rfl⟩, rfl⟩
        · refine rj_sipush (pc := 43) dX11_judge_43 (by decide +kernel) ?_
          refine r_iload (pc := 46) dX11_judge_46 rfl ?_
          refine rj_iadd (pc := 48) dX11_judge_48 ?_
          refine r_ireturn (pc := 49) .int dX11_judge_49 rfl (by first | rfl | assumption) ?_
          exact ⟨⟨_, ⟨by omega, by omega⟩, rfl⟩, rfl⟩
end mg_73

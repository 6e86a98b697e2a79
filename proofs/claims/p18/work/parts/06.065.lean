section mg_28
set_option maxHeartbeats 4000000 in
set_option maxRecDepth 100000 in
theorem L_behind {G : mG} {l : Launch} (d : Nat) {h : mH} {x s : Nat} {f4 f6 f8 f9 f10 f11 f12 f13 f14 f16 f18 : Int} {m kp was pool tape pln pap rwd rw : Nat → Int}(hB : isM h x (mFs x f4 f6 f8 f9 f10 f11 f12 f13 f14 f16 f18 s) m kp was pool tape pln pap rwd rw) (hPo : ∀ q, InR (pool q)) {a : Int} {E : Nat} (hE : E ≤ 12342) : ∀ (n p : Nat) (u : Int), p + n = E → -20000 ≤ u - n → u + n ≤ 20000 → RUN G l d mX11_behind 5 [some (.ref x), some (.int (J a)), some (.int (J (E : Int))), some (.int (J (p : Int))), some (.int (J u))] [] h (fun v h' => v = some (.int (J (behL pool n p u : Nat))) ∧ h' = h) := by
  dsimp only [mFs] at hB
  intro n
  induction n with
  | zero =>
    intro p u hp h1 h2
    refine r_iload_n (pc := 5) dX11_behind_5 rfl ?_
    refine r_iload_n (pc := 6) dX11_behind_6 rfl ?_
    refine rj_icmp_ge (pc := 7) (tgt := 68) dX11_behind_7 (by decide) (by first | assumption | exact b01_r | exact bz_r | omega | (constructor <;> omega) | exact hM _ | exact hPo _ | exact hTa _ | exact hRo _) (by first | assumption | exact b01_r | exact bz_r | omega | (constructor <;> omega) | exact hM _ | exact hPo _ | exact hTa _ | exact hRo _) (fun c_7 => ?_) (fun c_7 => ?_)
    · refine r_iload_n (pc := 68) dX11_behind_68 rfl ?_
      refine r_ireturn (pc := 69) .int dX11_behind_69 rfl (by first | rfl | assumption) ?_
      first
      | exact ⟨rfl, rfl⟩
      | (exfalso; omega)
    · refine r_iload (pc := 10) dX11_behind_10 rfl ?_
      refine rj_if_gt (pc := 12) (tgt := 26) dX11_behind_12 (by decide) (by first | assumption | exact b01_r | exact bz_r | omega | (constructor <;> omega) | exact hM _ | exact hPo _ | exact hTa _ | exact hRo _) (fun c_12 => ?_) (fun c_12 => ?_)
      · exfalso; omega
      · refine r_aload_n (pc := 15) dX11_behind_15 rfl (by first | rfl | exact isRefV_rf _) ?_
        refine rm_getf (pc := 16) dX11_behind_16 fX11_21 (by assumption) rfl ?_
        refine r_iload_n (pc := 19) dX11_behind_19 rfl ?_
        refine rj_iald (pc := 20) (j := p) dX11_behind_20 (by first | exact isM.g0 (by assumption) | exact isM.g3 (by assumption) | exact isM.g4 (by assumption) | exact isM.g8 (by assumption) | exact isM.g7 (by assumption) | exact isM.g6 (by assumption) | exact isM.g5 (by assumption) | exact isM.g1 (by assumption) | exact isM.g2 (by assumption)) (by first | assumption | exact b01_r | exact bz_r | omega | (constructor <;> omega) | exact hM _ | exact hPo _ | exact hTa _ | exact hRo _) (by first | assumption | exact b01_r | exact bz_r | omega | (constructor <;> omega) | exact hM _ | exact hPo _ | exact hTa _ | exact hRo _) (by first | assumption | exact b01_r | exact bz_r | omega | (constructor <;> omega) | exact hM _ | exact hPo _ | exact hTa _ | exact hRo _) (by omega) ?_
        refine rj_bipush (pc := 21) dX11_behind_21 (by decide +kernel) ?_
        refine rj_icmp_eq (pc := 23) (tgt := 68) dX11_behind_23 (by decide) (by first | assumption | exact b01_r | exact bz_r | omega | (constructor <;> omega) | exact hM _ | exact hPo _ | exact hTa _ | exact hRo _) (by first | assumption | exact b01_r | exact bz_r | omega | (constructor <;> omega) | exact hM _ | exact hPo _ | exact hTa _ | exact hRo _) (fun c_23 => ?_) (fun c_23 => ?_)
        · refine r_iload_n (pc := 68) dX11_behind_68 rfl ?_
          refine r_ireturn (pc := 69) .int dX11_behind_69 rfl (by first | rfl | assumption) ?_
          first
          | exact ⟨rfl, rfl⟩
          | (exfalso; omega)
        · exfalso; omega
  | succ n ih =>
    intro p u hp h1 h2
    refine r_iload_n (pc := 5) dX11_behind_5 rfl ?_
    refine r_iload_n (pc := 6) dX11_behind_6 rfl ?_
    refine rj_icmp_ge (pc := 7) (tgt := 68) dX11_behind_7 (by decide) (by first | assumption | exact b01_r | exact bz_r | omega | (constructor <;> omega) | exact hM _ | exact hPo _ | exact hTa _ | exact hRo _) (by first | assumption | exact b01_r | exact bz_r | omega | (constructor <;> omega) | exact hM _ | exact hPo _ | exact hTa _ | exact hRo _) (fun c_7 => ?_) (fun c_7 => ?_)
    · refine r_iload_n (pc := 68) dX11_behind_68 rfl ?_
      refine r_ireturn (pc := 69) .int dX11_behind_69 rfl (by first | rfl | assumption) ?_
      first
      | (exfalso; omega)
      | exact ⟨by rw [behL, if_neg (by omega)], rfl⟩
    · refine r_iload (pc := 10) dX11_behind_10 rfl ?_
      refine rj_if_gt (pc := 12) (tgt := 26) dX11_behind_12 (by decide) (by first | assumption | exact b01_r | exact bz_r | omega | (constructor <;> omega) | exact hM _ | exact hPo _ | exact hTa _ | exact hRo _) (fun c_12 => ?_) (fun c_12 => ?_)
      · refine r_iload (pc := 26) dX11_behind_26 rfl ?_
        refine r_aload_n (pc := 28) dX11_behind_28 rfl (by first | rfl | exact isRefV_rf _) ?_
        refine rm_getf (pc := 29) dX11_behind_29 fX11_21 (by assumption) rfl ?_
        refine r_iload_n (pc := 32) dX11_behind_32 rfl ?_
        refine rj_iald (pc := 33) (j := p) dX11_behind_33 (by first | exact isM.g0 (by assumption) | exact isM.g3 (by assumption) | exact isM.g4 (by assumption) | exact isM.g8 (by assumption) | exact isM.g7 (by assumption) | exact isM.g6 (by assumption) | exact isM.g5 (by assumption) | exact isM.g1 (by assumption) | exact isM.g2 (by assumption)) (by first | assumption | exact b01_r | exact bz_r | omega | (constructor <;> omega) | exact hM _ | exact hPo _ | exact hTa _ | exact hRo _) (by first | assumption | exact b01_r | exact bz_r | omega | (constructor <;> omega) | exact hM _ | exact hPo _ | exact hTa _ | exact hRo _) (by first | assumption | exact b01_r | exact bz_r | omega | (constructor <;> omega) | exact hM _ | exact hPo _ | exact hTa _ | exact hRo _) (by omega) ?_
        refine rj_bipush (pc := 34) dX11_behind_34 (by decide +kernel) ?_
        refine rj_icmp_ne (pc := 36) (tgt := 43) dX11_behind_36 (by decide) (by first | assumption | exact b01_r | exact bz_r | omega | (constructor <;> omega) | exact hM _ | exact hPo _ | exact hTa _ | exact hRo _) (by first | assumption | exact b01_r | exact bz_r | omega | (constructor <;> omega) | exact hM _ | exact hPo _ | exact hTa _ | exact hRo _) (fun c_36 => ?_) (fun c_36 => ?_)
        · refine r_aload_n (pc := 43) dX11_behind_43 rfl (by first | rfl | exact isRefV_rf _) ?_
          refine rm_getf (pc := 44) dX11_behind_44 fX11_21 (by assumption) rfl ?_
          refine r_iload_n (pc := 47) dX11_behind_47 rfl ?_
          refine rj_iald (pc := 48) (j := p) dX11_behind_48 (by first | exact isM.g0 (by assumption) | exact isM.g3 (by assumption) | exact isM.g4 (by assumption) | exact isM.g8 (by assumption) | exact isM.g7 (by assumption) | exact isM.g6 (by assumption) | exact isM.g5 (by assumption) | exact isM.g1 (by assumption) | exact isM.g2 (by assumption)) (by first | assumption | exact b01_r | exact bz_r | omega | (constructor <;> omega) | exact hM _ | exact hPo _ | exact hTa _ | exact hRo _) (by first | assumption | exact b01_r | exact bz_r | omega | (constructor <;> omega) | exact hM _ | exact hPo _ | exact hTa _ | exact hRo _) (by first | assumption | exact b01_r | exact bz_r | omega | (constructor <;> omega) | exact hM _ | exact hPo _ | exact hTa _ | exact hRo _) (by omega) ?_
          refine rj_bipush (pc := 49) dX11_behind_49 (by decide +kernel) ?_
          refine rj_icmp_ne (pc := 51) (tgt := 58) dX11_behind_51 (by decide) (by first | assumption | exact b01_r | exact bz_r | omega | (constructor <;> omega) | exact hM _ | exact hPo _ | exact hTa _ | exact hRo _) (by first | assumption | exact b01_r | exact bz_r | omega | (constructor <;> omega) | exact hM _ | exact hPo _ | exact hTa _ | exact hRo _) (fun c_51 => ?_) (fun c_51 => ?_)
          · refine rj_iconst (pc := 58) dX11_behind_58 ?_
            refine rj_iadd (pc := 59) dX11_behind_59 ?_
            refine r_istore (pc := 60) dX11_behind_60 (Nat.le_of_ble_eq_true rfl) ?_
            dsimp only [lsSt, List.set, mLs, mEnt]
            refine rj_iinc (pc := 62) dX11_behind_62 (Nat.le_of_ble_eq_true rfl) rfl ?_
            dsimp only [lsSt, List.set, mLs, mEnt]
            refine r_goto (pc := 65) (tgt := 5) dX11_behind_65 (by decide) ?_
            have eb : brk (pool p) = 0 := by unfold brk; rw [if_neg c_36, if_neg c_51]
            have z := ih (p + 1) (u + 0) (by omega) (by omega) (by omega)
            rw [show behL pool (n + 1) p u = behL pool n (p + 1) (u + 0) by rw [behL, if_pos (Or.inl c_12), eb]]
            exact z
          · refine rj_iconst (pc := 54) dX11_behind_54 ?_
            refine r_goto (pc := 55) (tgt := 59) dX11_behind_55 (by decide) ?_
            refine rj_iadd (pc := 59) dX11_behind_59 ?_
            refine r_istore (pc := 60) dX11_behind_60 (Nat.le_of_ble_eq_true rfl) ?_
            dsimp only [lsSt, List.set, mLs, mEnt]
            refine rj_iinc (pc := 62) dX11_behind_62 (Nat.le_of_ble_eq_true rfl) rfl ?_
            dsimp only [lsSt, List.set, mLs, mEnt]
            refine r_goto (pc := 65) (tgt := 5) dX11_behind_65 (by decide) ?_
            have eb : brk (pool p) = -1 := by unfold brk; rw [if_neg c_36, if_pos c_51]
            have z := ih (p + 1) (u + -1) (by omega) (by omega) (by omega)
            rw [show behL pool (n + 1) p u = behL pool n (p + 1) (u + -1) by rw [behL, if_pos (Or.inl c_12), eb]]
            exact z
        · refine rj_iconst (pc := 39) dX11_behind_39 ?_
          refine r_goto (pc := 40) (tgt := 59) dX11_behind_40 (by decide) ?_
          refine rj_iadd (pc := 59) dX11_behind_59 ?_
          refine r_istore (pc := 60) dX11_behind_60 (Nat.le_of_ble_eq_true rfl) ?_
          dsimp only [lsSt, List.set, mLs, mEnt]
          refine rj_iinc (pc := 62) dX11_behind_62 (Nat.le_of_ble_eq_true rfl) rfl ?_
          dsimp only [lsSt, List.set, mLs, mEnt]
          refine r_goto (pc := 65) (tgt := 5) dX11_behind_65 (by decide) ?_
          have eb : brk (pool p) = 1 := by unfold brk; rw [if_pos c_36]
          have z := ih (p + 1) (u + 1) (by omega) (by omega) (by omega)
          rw [show behL pool (n + 1) p u = behL pool n (p + 1) (u + 1) by rw [behL, if_pos (Or.inl c_12), eb]]
          exact z
      · refine r_aload_n (pc := 15) dX11_behind_15 rfl (by first | rfl | exact isRefV_rf _) ?_
        refine rm_getf (pc := 16) dX11_behind_16 fX11_21 (by assumption) rfl ?_
        refine r_iload_n (pc := 19) dX11_behind_19 rfl ?_
        refine rj_iald (pc := 20) (j := p) dX11_behind_20 (by first | exact isM.g0 (by assumption) | exact isM.g3 (by assumption) | exact isM.g4 (by assumption) | exact isM.g8 (by assumption) | exact isM.g7 (by assumption) | exact isM.g6 (by assumption) | exact isM.g5 (by assumption) | exact isM.g1 (by assumption) | exact isM.g2 (by assumption)) (by first | assumption | exact b01_r | exact bz_r | omega | (constructor <;> omega) | exact hM _ | exact hPo _ | exact hTa _ | exact hRo _) (by first | assumption | exact b01_r | exact bz_r | omega | (constructor <;> omega) | exact hM _ | exact hPo _ | exact hTa _ | exact hRo _) (by first | assumption | exact b01_r | exact bz_r | omega | (constructor <;> omega) | exact hM _ | exact hPo _ | exact hTa _ | exact hRo _) (by omega) ?_
        refine rj_bipush (pc := 21) dX11_behind_21 (by decide +kernel) ?_
        refine rj_icmp_eq (pc := 23) (tgt := 68) dX11_behind_23 (by decide) (by first | assumption | exact b01_r | exact bz_r | omega | (constructor <;> omega) | exact hM _ | exact hPo _ | exact hTa _ | exact hRo _) (by first | assumption | exact b01_r | exact bz_r | omega | (constructor <;> omega) | exact hM _ | exact hPo _ | exact hTa _ | exact hRo _) (fun c_23 => ?_) (fun c_23 => ?_)
        · refine r_iload_n (pc := 68) dX11_behind_68 rfl ?_
          refine r_ireturn (pc := 69) .int dX11_behind_69 rfl (by first | rfl | assumption) ?_
          first
          | (exfalso; omega)
          | exact ⟨by rw [behL, if_neg (by omega)], rfl⟩
        · refine r_iload (pc := 26) dX11_behind_26 rfl ?_
          refine r_aload_n (pc := 28) dX11_behind_28 rfl (by first | rfl | exact isRefV_rf _) ?_
          refine rm_getf (pc := 29) dX11_behind_29 fX11_21 (by assumption) rfl ?_
          refine r_iload_n (pc := 32) dX11_behind_32 rfl ?_
          refine rj_iald (pc := 33) (j := p) dX11_behind_33 (by first | exact isM.g0 (by assumption) | exact isM.g3 (by assumption) | exact isM.g4 (by assumption) | exact isM.g8 (by assumption) | exact isM.g7 (by assumption) | exact isM.g6 (by assumption) | exact isM.g5 (by assumption) | exact isM.g1 (by assumption) | exact isM.g2 (by assumption)) (by first | assumption | exact b01_r | exact bz_r | omega | (constructor <;> omega) | exact hM _ | exact hPo _ | exact hTa _ | exact hRo _) (by first | assumption | exact b01_r | exact bz_r | omega | (constructor <;> omega) | exact hM _ | exact hPo _ | exact hTa _ | exact hRo _) (by first | assumption | exact b01_r | exact bz_r | omega | (constructor <;> omega) | exact hM _ | exact hPo _ | exact hTa _ | exact hRo _) (by omega) ?_
          refine rj_bipush (pc := 34) dX11_behind_34 (by decide +kernel) ?_
          refine rj_icmp_ne (pc := 36) (tgt := 43) dX11_behind_36 (by decide) (by first | assumption | exact b01_r | exact bz_r | omega | (constructor <;> omega) | exact hM _ | exact hPo _ | exact hTa _ | exact hRo _) (by first | assumption | exact b01_r | exact bz_r | omega | (constructor <;> omega) | exact hM _ | exact hPo _ | exact hTa _ | exact hRo _) (fun c_36 => ?_) (fun c_36 => ?_)
          · refine r_aload_n (pc := 43) dX11_behind_43 rfl (by first | rfl | exact isRefV_rf _) ?_
            refine rm_getf (pc := 44) dX11_behind_44 fX11_21 (by assumption) rfl ?_
            refine r_iload_n (pc := 47) dX11_behind_47 rfl ?_
            refine rj_iald (pc := 48) (j := p) dX11_behind_48 (by first | exact isM.g0 (by assumption) | exact isM.g3 (by assumption) | exact isM.g4 (by assumption) | exact isM.g8 (by assumption) | exact isM.g7 (by assumption) | exact isM.g6 (by assumption) | exact isM.g5 (by assumption) | exact isM.g1 (by assumption) | exact isM.g2 (by assumption)) (by first | assumption | exact b01_r | exact bz_r | omega | (constructor <;> omega) | exact hM _ | exact hPo _ | exact hTa _ | exact hRo _) (by first | assumption | exact b01_r | exact bz_r | omega | (constructor <;> omega) | exact hM _ | exact hPo _ | exact hTa _ | exact hRo _) (by first | assumption | exact b01_r | exact bz_r | omega | (constructor <;> omega) | exact hM _ | exact hPo _ | exact hTa _ | exact hRo _) (by omega) ?_
            refine rj_bipush (pc := 49) dX11_behind_49 (by decide +kernel) ?_
            refine rj_icmp_ne (pc := 51) (tgt := 58) dX11_behind_51 (by decide) (by first | assumption | exact b01_r | exact bz_r | omega | (constructor <;> omega) | exact hM _ | exact hPo _ | exact hTa _ | exact hRo _) (by first | assumption | exact b01_r | exact bz_r | omega | (constructor <;> omega) | exact hM _ | exact hPo _ | exact hTa _ | exact hRo _) (fun c_51 => ?_) (fun c_51 => ?_)
            · refine rj_iconst (pc := 58) dX11_behind_58 ?_
              refine rj_iadd (pc := 59) dX11_behind_59 ?_
              refine r_istore (pc := 60) dX11_behind_60 (Nat.le_of_ble_eq_true rfl) ?_
              dsimp only [lsSt, List.set, mLs, mEnt]
              refine rj_iinc (pc := 62) dX11_behind_62 (Nat.le_of_ble_eq_true rfl) rfl ?_
              dsimp only [lsSt, List.set, mLs, mEnt]
              refine r_goto (pc := 65) (tgt := 5) dX11_behind_65 (by decide) ?_
              have eb : brk (pool p) = 0 := by unfold brk; rw [if_neg c_36, if_neg c_51]
              have z := ih (p + 1) (u + 0) (by omega) (by omega) (by omega)
              rw [show behL pool (n + 1) p u = behL pool n (p + 1) (u + 0) by rw [behL, if_pos (Or.inr c_23), eb]]
              exact z
            · refine rj_iconst (pc := 54) dX11_behind_54 ?_
              refine r_goto (pc := 55) (tgt := 59) dX11_behind_55 (by decide) ?_
              refine rj_iadd (pc := 59) dX11_behind_59 ?_
              refine r_istore (pc := 60) dX11_behind_60 (Nat.le_of_ble_eq_true rfl) ?_
              dsimp only [lsSt, List.set, mLs, mEnt]
              refine rj_iinc (pc := 62) dX11_behind_62 (Nat.le_of_ble_eq_true rfl) rfl ?_
              dsimp only [lsSt, List.set, mLs, mEnt]
              refine r_goto (pc := 65) (tgt := 5) dX11_behind_65 (by decide) ?_
              have eb : brk (pool p) = -1 := by unfold brk; rw [if_neg c_36, if_pos c_51]
              have z := ih (p + 1) (u + -1) (by omega) (by omega) (by omega)
              rw [show behL pool (n + 1) p u = behL pool n (p + 1) (u + -1) by rw [behL, if_pos (Or.inr c_23), eb]]
              exact z
          · refine rj_iconst (pc := 39) dX11_behind_39 ?_
            refine r_goto (pc := 40) (tgt := 59) dX11_behind_40 (by decide) ?_
            refine rj_iadd (pc := 59) dX11_behind_59 ?_
            refine r_istore (pc := 60) dX11_behind_60 (Nat.le_of_ble_eq_true rfl) ?_
            dsimp only [lsSt, List.set, mLs, mEnt]
            refine rj_iinc (pc := 62) dX11_behind_62 (Nat.le_of_ble_eq_true rfl) rfl ?_
            dsimp only [lsSt, List.set, mLs, mEnt]
            refine r_goto (pc := 65) (tgt := 5) dX11_behind_65 (by decide) ?_
            have eb : brk (pool p) = 1 := by unfold brk; rw [if_pos c_36]
            have z := ih (p + 1) (u + 1) (by omega) (by omega) (by omega)
            rw [show behL pool (n + 1) p u = behL pool n (p + 1) (u + 1) by rw [behL, if_pos (Or.inr c_23), eb]]
            exact z
end mg_28

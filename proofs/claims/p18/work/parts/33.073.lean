section mg_44
set_option maxHeartbeats 4000000 in
set_option maxRecDepth 100000 in
theorem L_pooled {G : mG} {l : Launch} (d : Nat) {x s : Nat} {f4 f6 f8 f9 f10 f11 f12 f13 f14 f16 f18 : Int} {m kp was pool tape pln pap rwd rw : Nat → Int} {a b p : Nat} (hTa : ∀ q, InR (tape q)) (hab : a ≤ b) (hb : b ≤ 120) (hp : p + (b - a) < 12342) (h8 : m 8 = (p : Int)) : ∀ (j k : Nat) (h : mH), isM h x (mFs x f4 f6 f8 f9 f10 f11 f12 f13 f14 f16 f18 s) m kp was (plF pool tape p a k) tape pln pap rwd rw → a + k + j = b → RUN G l d mX11_pooled 11 [some (.ref x), some (.int (J (a : Int))), some (.int (J (b : Int))), some (.int (J (p : Int))), some (.int (J ((a + k : Nat) : Int)))] [] h (fun v h' => v = some (.int (J (p : Int))) ∧ isM h' x (mFs x f4 f6 f8 f9 f10 f11 f12 f13 f14 f16 f18 s) (updI m 8 ((p : Int) + (b - a : Nat) + 1)) kp was (pooledP pool tape p a b) tape pln pap rwd rw ∧ Same (mBlk x) h h') := by
  intro j
  induction j with
  | zero =>
    intro k h hB hk
    dsimp only [mFs] at hB
    have ek : k = b - a := by omega
    refine r_iload (pc := 11) dX11_pooled_11 rfl ?_
    refine r_iload_n (pc := 13) dX11_pooled_13 rfl ?_
    refine rj_icmp_ge (pc := 14) (tgt := 41) dX11_pooled_14 (by decide) (by first | assumption | exact b01_r | exact bz_r | omega | (constructor <;> omega) | exact hM _ | exact hPo _ | exact hTa _ | exact hRo _) (by first | assumption | exact b01_r | exact bz_r | omega | (constructor <;> omega) | exact hM _ | exact hPo _ | exact hTa _ | exact hRo _) (fun c_14 => ?_) (fun c_14 => ?_)
    · refine r_aload_n (pc := 41) dX11_pooled_41 rfl (by first | rfl | exact isRefV_rf _) ?_
      refine rm_getf (pc := 42) dX11_pooled_42 fX11_21 (by assumption) rfl ?_
      refine r_iload_n (pc := 45) dX11_pooled_45 rfl ?_
      refine r_iload_n (pc := 46) dX11_pooled_46 rfl ?_
      refine rj_iadd (pc := 47) dX11_pooled_47 ?_
      refine r_iload_n (pc := 48) dX11_pooled_48 rfl ?_
      refine rj_isub (pc := 49) dX11_pooled_49 ?_
      refine rj_iconst (pc := 50) dX11_pooled_50 ?_
      first | refine rm_iast3 (pc := 51) (j := p + (b - a)) dX11_pooled_51 (by assumption) (by first | assumption | exact b01_r | exact bz_r | omega | (constructor <;> omega) | exact hM _ | exact hPo _ | exact hTa _ | exact hRo _) (by first | assumption | exact b01_r | exact bz_r | omega | (constructor <;> omega) | exact hM _ | exact hPo _ | exact hTa _ | exact hRo _) (by first | assumption | exact b01_r | exact bz_r | omega | (constructor <;> omega) | exact hM _ | exact hPo _ | exact hTa _ | exact hRo _) (by omega) (fun h_51 hB_51 hS_51 => ?_)
      refine r_aload_n (pc := 52) dX11_pooled_52 rfl (by first | rfl | exact isRefV_rf _) ?_
      refine rm_getf (pc := 53) dX11_pooled_53 fX11_11 (by assumption) rfl ?_
      refine rj_bipush (pc := 56) dX11_pooled_56 (by decide +kernel) ?_
      refine r_dup2 (pc := 58) dX11_pooled_58 rfl rfl ?_
      refine rj_iald (pc := 59) (j := 8) dX11_pooled_59 (by first | exact isM.g0 (by assumption) | exact isM.g3 (by assumption) | exact isM.g4 (by assumption) | exact isM.g8 (by assumption) | exact isM.g7 (by assumption) | exact isM.g6 (by assumption) | exact isM.g5 (by assumption) | exact isM.g1 (by assumption) | exact isM.g2 (by assumption)) (by first | assumption | exact b01_r | exact bz_r | omega | (constructor <;> omega) | exact hM _ | exact hPo _ | exact hTa _ | exact hRo _) (by first | assumption | exact b01_r | exact bz_r | omega | (constructor <;> omega) | exact hM _ | exact hPo _ | exact hTa _ | exact hRo _) (by first | assumption | exact b01_r | exact bz_r | omega | (constructor <;> omega) | exact hM _ | exact hPo _ | exact hTa _ | exact hRo _) (by omega) ?_
      refine r_iload_n (pc := 60) dX11_pooled_60 rfl ?_
      refine r_iload_n (pc := 61) dX11_pooled_61 rfl ?_
      refine rj_isub (pc := 62) dX11_pooled_62 ?_
      refine rj_iconst (pc := 63) dX11_pooled_63 ?_
      refine rj_iadd (pc := 64) dX11_pooled_64 ?_
      refine rj_iadd (pc := 65) dX11_pooled_65 ?_
      first | refine rm_iast0 (pc := 66) (j := 8) dX11_pooled_66 (by assumption) (by first | assumption | exact b01_r | exact bz_r | omega | (constructor <;> omega) | exact hM _ | exact hPo _ | exact hTa _ | exact hRo _) (by first | assumption | exact b01_r | exact bz_r | omega | (constructor <;> omega) | exact hM _ | exact hPo _ | exact hTa _ | exact hRo _) (by first | assumption | exact b01_r | exact bz_r | omega | (constructor <;> omega) | exact hM _ | exact hPo _ | exact hTa _ | exact hRo _) (by omega) (fun h_66 hB_66 hS_66 => ?_)
      refine r_iload_n (pc := 67) dX11_pooled_67 rfl ?_
      refine r_ireturn (pc := 68) .int dX11_pooled_68 rfl (by first | rfl | assumption) ?_
      subst ek
      rw [h8, show (p : Int) + ((b : Int) - (a : Int) + 1) = (p : Int) + (b - a : Nat) + 1 by omega] at hB_66
      exact ⟨rfl, hB_66, hS_51.trans hS_66⟩
    · exfalso; omega
  | succ j ih =>
    intro k h hB hk
    dsimp only [mFs] at hB
    refine r_iload (pc := 11) dX11_pooled_11 rfl ?_
    refine r_iload_n (pc := 13) dX11_pooled_13 rfl ?_
    refine rj_icmp_ge (pc := 14) (tgt := 41) dX11_pooled_14 (by decide) (by first | assumption | exact b01_r | exact bz_r | omega | (constructor <;> omega) | exact hM _ | exact hPo _ | exact hTa _ | exact hRo _) (by first | assumption | exact b01_r | exact bz_r | omega | (constructor <;> omega) | exact hM _ | exact hPo _ | exact hTa _ | exact hRo _) (fun c_14 => ?_) (fun c_14 => ?_)
    · refine r_aload_n (pc := 41) dX11_pooled_41 rfl (by first | rfl | exact isRefV_rf _) ?_
      refine rm_getf (pc := 42) dX11_pooled_42 fX11_21 (by assumption) rfl ?_
      refine r_iload_n (pc := 45) dX11_pooled_45 rfl ?_
      refine r_iload_n (pc := 46) dX11_pooled_46 rfl ?_
      refine rj_iadd (pc := 47) dX11_pooled_47 ?_
      refine r_iload_n (pc := 48) dX11_pooled_48 rfl ?_
      refine rj_isub (pc := 49) dX11_pooled_49 ?_
      refine rj_iconst (pc := 50) dX11_pooled_50 ?_
      first | refine rm_iast3 (pc := 51) (j := p + (b - a)) dX11_pooled_51 (by assumption) (by first | assumption | exact b01_r | exact bz_r | omega | (constructor <;> omega) | exact hM _ | exact hPo _ | exact hTa _ | exact hRo _) (by first | assumption | exact b01_r | exact bz_r | omega | (constructor <;> omega) | exact hM _ | exact hPo _ | exact hTa _ | exact hRo _) (by first | assumption | exact b01_r | exact bz_r | omega | (constructor <;> omega) | exact hM _ | exact hPo _ | exact hTa _ | exact hRo _) (by omega) (fun h_51 hB_51 hS_51 => ?_)
      refine r_aload_n (pc := 52) dX11_pooled_52 rfl (by first | rfl | exact isRefV_rf _) ?_
      refine rm_getf (pc := 53) dX11_pooled_53 fX11_11 (by assumption) rfl ?_
      refine rj_bipush (pc := 56) dX11_pooled_56 (by decide +kernel) ?_
      refine r_dup2 (pc := 58) dX11_pooled_58 rfl rfl ?_
      refine rj_iald (pc := 59) (j := 8) dX11_pooled_59 (by first | exact isM.g0 (by assumption) | exact isM.g3 (by assumption) | exact isM.g4 (by assumption) | exact isM.g8 (by assumption) | exact isM.g7 (by assumption) | exact isM.g6 (by assumption) | exact isM.g5 (by assumption) | exact isM.g1 (by assumption) | exact isM.g2 (by assumption)) (by first | assumption | exact b01_r | exact bz_r | omega | (constructor <;> omega) | exact hM _ | exact hPo _ | exact hTa _ | exact hRo _) (by first | assumption | exact b01_r | exact bz_r | omega | (constructor <;> omega) | exact hM _ | exact hPo _ | exact hTa _ | exact hRo _) (by first | assumption | exact b01_r | exact bz_r | omega | (constructor <;> omega) | exact hM _ | exact hPo _ | exact hTa _ | exact hRo _) (by omega) ?_
      refine r_iload_n (pc := 60) dX11_pooled_60 rfl ?_
      refine r_iload_n (pc := 61) dX11_pooled_61 rfl ?_
      refine rj_isub (pc := 62) dX11_pooled_62 ?_
      refine rj_iconst (pc := 63) dX11_pooled_63 ?_
      refine rj_iadd (pc := 64) dX11_pooled_64 ?_
      refine rj_iadd (pc := 65) dX11_pooled_65 ?_
      first | refine rm_iast0 (pc := 66) (j := 8) dX11_pooled_66 (by assumption) (by first | assumption | exact b01_r | exact bz_r | omega | (constructor <;> omega) | exact hM _ | exact hPo _ | exact hTa _ | exact hRo _) (by first | assumption | exact b01_r | exact bz_r | omega | (constructor <;> omega) | exact hM _ | exact hPo _ | exact hTa _ | exact hRo _) (by first | assumption | exact b01_r | exact bz_r | omega | (constructor <;> omega) | exact hM _ | exact hPo _ | exact hTa _ | exact hRo _) (by omega) (fun h_66 hB_66 hS_66 => ?_)
      refine r_iload_n (pc := 67) dX11_pooled_67 rfl ?_
      refine r_ireturn (pc := 68) .int dX11_pooled_68 rfl (by first | rfl | assumption) ?_
      exfalso; omega
    · refine r_aload_n (pc := 17) dX11_pooled_17 rfl (by first | rfl | exact isRefV_rf _) ?_
      refine rm_getf (pc := 18) dX11_pooled_18 fX11_21 (by assumption) rfl ?_
      refine r_iload_n (pc := 21) dX11_pooled_21 rfl ?_
      refine r_iload (pc := 22) dX11_pooled_22 rfl ?_
      refine rj_iadd (pc := 24) dX11_pooled_24 ?_
      refine r_iload_n (pc := 25) dX11_pooled_25 rfl ?_
      refine rj_isub (pc := 26) dX11_pooled_26 ?_
      refine r_aload_n (pc := 27) dX11_pooled_27 rfl (by first | rfl | exact isRefV_rf _) ?_
      refine rm_getf (pc := 28) dX11_pooled_28 fX11_24 (by assumption) rfl ?_
      refine r_iload (pc := 31) dX11_pooled_31 rfl ?_
      refine rj_iald (pc := 33) (j := a + k) dX11_pooled_33 (by first | exact isM.g0 (by assumption) | exact isM.g3 (by assumption) | exact isM.g4 (by assumption) | exact isM.g8 (by assumption) | exact isM.g7 (by assumption) | exact isM.g6 (by assumption) | exact isM.g5 (by assumption) | exact isM.g1 (by assumption) | exact isM.g2 (by assumption)) (by first | assumption | exact b01_r | exact bz_r | omega | (constructor <;> omega) | exact hM _ | exact hPo _ | exact hTa _ | exact hRo _) (by first | assumption | exact b01_r | exact bz_r | omega | (constructor <;> omega) | exact hM _ | exact hPo _ | exact hTa _ | exact hRo _) (by first | assumption | exact b01_r | exact bz_r | omega | (constructor <;> omega) | exact hM _ | exact hPo _ | exact hTa _ | exact hRo _) (by omega) ?_
      first | refine rm_iast3 (pc := 34) (j := p + k) dX11_pooled_34 (by assumption) (by first | assumption | exact b01_r | exact bz_r | omega | (constructor <;> omega) | exact hM _ | exact hPo _ | exact hTa _ | exact hRo _) (by first | assumption | exact b01_r | exact bz_r | omega | (constructor <;> omega) | exact hM _ | exact hPo _ | exact hTa _ | exact hRo _) (by first | assumption | exact b01_r | exact bz_r | omega | (constructor <;> omega) | exact hM _ | exact hPo _ | exact hTa _ | exact hRo _) (by omega) (fun h_34 hB_34 hS_34 => ?_)
      rw [plF_s] at hB_34
      refine rj_iinc (pc := 35) dX11_pooled_35 (Nat.le_of_ble_eq_true rfl) rfl ?_
      dsimp only [lsSt, List.set, mLs, mEnt]
      refine r_goto (pc := 38) (tgt := 11) dX11_pooled_38 (by decide) ?_
      have z := ih (k + 1) h_34 hB_34 (by omega)
      exact z.mono (fun v h' g => ⟨g.1, g.2.1, hS_34.trans g.2.2⟩)
end mg_44

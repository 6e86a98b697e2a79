section mg_73
set_option maxHeartbeats 4000000 in
set_option maxRecDepth 100000 in
theorem L_lay {G : mG} {l : Launch} (d : Nat) {x s : Nat} {f4 f6 f8 f9 f10 f11 f12 f13 f14 f16 f18 : Int} {m kp was pool tape pln pap rwd rw : Nat → Int} (hok : mOk m) (hRo : ∀ q, InR (rwd q)) (h40 : ∀ q, rwd q ≤ 40) {r i : Int} (hr : 0 ≤ r ∧ r ≤ 3) (hi : InR i) (hw : wrongV rwd r = 0) (hw0 : 0 ≤ rwd r.toNat) : ∀ (n k : Nat) (h : mH), (k : Int) + n = m 2 → (0 < k → 0 ≤ i ∧ (k : Int) ≤ rwd r.toNat - i) → isM h x (mFs x f4 f6 f8 f9 f10 f11 f12 f13 f14 f16 f18 s) m kp was pool tape pln pap rwd (layR rw m (40 * r + i).toNat k) → RUN G l d mX11_lay 15 [some (.ref x), some (.int (J r)), some (.int (J i)), some (.int (J 0)), some (.int (J (k : Int)))] [] h (fun v h' => v = some (.int (J (layV m rwd r i))) ∧ isM h' x (mFs x f4 f6 f8 f9 f10 f11 f12 f13 f14 f16 f18 s) m kp was pool tape pln pap rwd (layR rw m (40 * r + i).toNat (layN (m 2) (rwd r.toNat) i)) ∧ Same (mBlk x) h h') := by
  obtain ⟨hM, k0, k1, k2, k3, k4, k5, k7⟩ := id hok
  have q1 := h40 r.toNat
  intro n
  induction n with
  | zero =>
    intro k h hk hpos hB
    have hB0 := hB
    dsimp only [mFs] at hB
    refine r_iload (pc := 15) dX11_lay_15 rfl ?_
    refine r_aload_n (pc := 17) dX11_lay_17 rfl (by first | rfl | exact isRefV_rf _) ?_
    refine rm_getf (pc := 18) dX11_lay_18 fX11_11 (by assumption) rfl ?_
    refine rj_iconst (pc := 21) dX11_lay_21 ?_
    refine rj_iald (pc := 22) (j := 2) dX11_lay_22 (by first | exact isM.g0 (by assumption) | exact isM.g3 (by assumption) | exact isM.g4 (by assumption) | exact isM.g8 (by assumption) | exact isM.g7 (by assumption) | exact isM.g6 (by assumption) | exact isM.g5 (by assumption) | exact isM.g1 (by assumption) | exact isM.g2 (by assumption)) (by first | assumption | exact b01_r | exact bz_r | omega | (constructor <;> omega) | exact hM _ | exact hPo _ | exact hTa _ | exact hRo _) (by first | assumption | exact b01_r | exact bz_r | omega | (constructor <;> omega) | exact hM _ | exact hPo _ | exact hTa _ | exact hRo _) (by first | assumption | exact b01_r | exact bz_r | omega | (constructor <;> omega) | exact hM _ | exact hPo _ | exact hTa _ | exact hRo _) (by omega) ?_
    refine rj_icmp_ge (pc := 23) (tgt := 77) dX11_lay_23 (by decide) (by first | assumption | exact b01_r | exact bz_r | omega | (constructor <;> omega) | exact hM _ | exact hPo _ | exact hTa _ | exact hRo _) (by first | assumption | exact b01_r | exact bz_r | omega | (constructor <;> omega) | exact hM _ | exact hPo _ | exact hTa _ | exact hRo _) (fun c_23 => ?_) (fun c_23 => ?_)
    · refine r_aload_n (pc := 77) dX11_lay_77 rfl (by first | rfl | exact isRefV_rf _) ?_
      refine rm_getf (pc := 78) dX11_lay_78 fX11_11 (by assumption) rfl ?_
      refine rj_iconst (pc := 81) dX11_lay_81 ?_
      refine rj_iald (pc := 82) (j := 2) dX11_lay_82 (by first | exact isM.g0 (by assumption) | exact isM.g3 (by assumption) | exact isM.g4 (by assumption) | exact isM.g8 (by assumption) | exact isM.g7 (by assumption) | exact isM.g6 (by assumption) | exact isM.g5 (by assumption) | exact isM.g1 (by assumption) | exact isM.g2 (by assumption)) (by first | assumption | exact b01_r | exact bz_r | omega | (constructor <;> omega) | exact hM _ | exact hPo _ | exact hTa _ | exact hRo _) (by first | assumption | exact b01_r | exact bz_r | omega | (constructor <;> omega) | exact hM _ | exact hPo _ | exact hTa _ | exact hRo _) (by first | assumption | exact b01_r | exact bz_r | omega | (constructor <;> omega) | exact hM _ | exact hPo _ | exact hTa _ | exact hRo _) (by omega) ?_
      refine r_ireturn (pc := 83) .int dX11_lay_83 rfl (by first | rfl | assumption) ?_
      rw [show layV m rwd r i = m 2 by unfold layV; rw [if_pos hw, if_pos (by omega)]]
      rw [show layN (m 2) (rwd r.toNat) i = k by unfold layN; split <;> (try split) <;> omega]
      exact ⟨rfl, hB0, Same.refl⟩
    · exfalso; omega
  | succ n ih =>
    intro k h hk hpos hB
    have hB0 := hB
    dsimp only [mFs] at hB
    refine r_iload (pc := 15) dX11_lay_15 rfl ?_
    refine r_aload_n (pc := 17) dX11_lay_17 rfl (by first | rfl | exact isRefV_rf _) ?_
    refine rm_getf (pc := 18) dX11_lay_18 fX11_11 (by assumption) rfl ?_
    refine rj_iconst (pc := 21) dX11_lay_21 ?_
    refine rj_iald (pc := 22) (j := 2) dX11_lay_22 (by first | exact isM.g0 (by assumption) | exact isM.g3 (by assumption) | exact isM.g4 (by assumption) | exact isM.g8 (by assumption) | exact isM.g7 (by assumption) | exact isM.g6 (by assumption) | exact isM.g5 (by assumption) | exact isM.g1 (by assumption) | exact isM.g2 (by assumption)) (by first | assumption | exact b01_r | exact bz_r | omega | (constructor <;> omega) | exact hM _ | exact hPo _ | exact hTa _ | exact hRo _) (by first | assumption | exact b01_r | exact bz_r | omega | (constructor <;> omega) | exact hM _ | exact hPo _ | exact hTa _ | exact hRo _) (by first | assumption | exact b01_r | exact bz_r | omega | (constructor <;> omega) | exact hM _ | exact hPo _ | exact hTa _ | exact hRo _) (by omega) ?_
    refine rj_icmp_ge (pc := 23) (tgt := 77) dX11_lay_23 (by decide) (by first | assumption | exact b01_r | exact bz_r | omega | (constructor <;> omega) | exact hM _ | exact hPo _ | exact hTa _ | exact hRo _) (by first | assumption | exact b01_r | exact bz_r | omega | (constructor <;> omega) | exact hM _ | exact hPo _ | exact hTa _ | exact hRo _) (fun c_23 => ?_) (fun c_23 => ?_)
    · exfalso; omega
    · refine r_iload_n (pc := 26) dX11_lay_26 rfl ?_
      refine rj_if_lt (pc := 27) (tgt := 43) dX11_lay_27 (by decide) (by first | assumption | exact b01_r | exact bz_r | omega | (constructor <;> omega) | exact hM _ | exact hPo _ | exact hTa _ | exact hRo _) (fun c_27 => ?_) (fun c_27 => ?_)
      · refine rj_bipush (pc := 43) dX11_lay_43 (by decide +kernel) ?_
        refine r_ireturn (pc := 45) .int dX11_lay_45 rfl (by first | rfl | assumption) ?_
        rw [show layV m rwd r i = -13 by unfold layV; rw [if_pos hw, if_neg (by omega)]]
        rw [show layN (m 2) (rwd r.toNat) i = k by unfold layN; split <;> (try split) <;> omega]
        exact ⟨rfl, hB0, Same.refl⟩
      · refine r_iload (pc := 30) dX11_lay_30 rfl ?_
        refine r_aload_n (pc := 32) dX11_lay_32 rfl (by first | rfl | exact isRefV_rf _) ?_
        refine rm_getf (pc := 33) dX11_lay_33 fX11_36 (by assumption) rfl ?_
        refine r_iload_n (pc := 36) dX11_lay_36 rfl ?_
        refine rj_iald (pc := 37) (j := r.toNat) dX11_lay_37 (by first | exact isM.g0 (by assumption) | exact isM.g3 (by assumption) | exact isM.g4 (by assumption) | exact isM.g8 (by assumption) | exact isM.g7 (by assumption) | exact isM.g6 (by assumption) | exact isM.g5 (by assumption) | exact isM.g1 (by assumption) | exact isM.g2 (by assumption)) (by first | assumption | exact b01_r | exact bz_r | omega | (constructor <;> omega) | exact hM _ | exact hPo _ | exact hTa _ | exact hRo _) (by first | assumption | exact b01_r | exact bz_r | omega | (constructor <;> omega) | exact hM _ | exact hPo _ | exact hTa _ | exact hRo _) (by first | assumption | exact b01_r | exact bz_r | omega | (constructor <;> omega) | exact hM _ | exact hPo _ | exact hTa _ | exact hRo _) (by omega) ?_
        refine r_iload_n (pc := 38) dX11_lay_38 rfl ?_
        refine rj_isub (pc := 39) dX11_lay_39 ?_
        refine rj_icmp_lt (pc := 40) (tgt := 46) dX11_lay_40 (by decide) (by first | assumption | exact b01_r | exact bz_r | omega | (constructor <;> omega) | exact hM _ | exact hPo _ | exact hTa _ | exact hRo _) (by first | assumption | exact b01_r | exact bz_r | omega | (constructor <;> omega) | exact hM _ | exact hPo _ | exact hTa _ | exact hRo _) (fun c_40 => ?_) (fun c_40 => ?_)
        · refine r_aload_n (pc := 46) dX11_lay_46 rfl (by first | rfl | exact isRefV_rf _) ?_
          refine rm_getf (pc := 47) dX11_lay_47 fX11_39 (by assumption) rfl ?_
          refine rj_bipush (pc := 50) dX11_lay_50 (by decide +kernel) ?_
          refine r_iload_n (pc := 52) dX11_lay_52 rfl ?_
          refine rj_imul (pc := 53) dX11_lay_53 ?_
          refine r_iload_n (pc := 54) dX11_lay_54 rfl ?_
          refine rj_iadd (pc := 55) dX11_lay_55 ?_
          refine r_iload (pc := 56) dX11_lay_56 rfl ?_
          refine rj_iadd (pc := 58) dX11_lay_58 ?_
          refine r_aload_n (pc := 59) dX11_lay_59 rfl (by first | rfl | exact isRefV_rf _) ?_
          refine rm_getf (pc := 60) dX11_lay_60 fX11_11 (by assumption) rfl ?_
          refine rj_sipush (pc := 63) dX11_lay_63 (by decide +kernel) ?_
          refine r_iload (pc := 66) dX11_lay_66 rfl ?_
          refine rj_iadd (pc := 68) dX11_lay_68 ?_
          refine rj_iald (pc := 69) (j := 1518 + k) dX11_lay_69 (by first | exact isM.g0 (by assumption) | exact isM.g3 (by assumption) | exact isM.g4 (by assumption) | exact isM.g8 (by assumption) | exact isM.g7 (by assumption) | exact isM.g6 (by assumption) | exact isM.g5 (by assumption) | exact isM.g1 (by assumption) | exact isM.g2 (by assumption)) (by first | assumption | exact b01_r | exact bz_r | omega | (constructor <;> omega) | exact hM _ | exact hPo _ | exact hTa _ | exact hRo _) (by first | assumption | exact b01_r | exact bz_r | omega | (constructor <;> omega) | exact hM _ | exact hPo _ | exact hTa _ | exact hRo _) (by first | assumption | exact b01_r | exact bz_r | omega | (constructor <;> omega) | exact hM _ | exact hPo _ | exact hTa _ | exact hRo _) (by omega) ?_
          first | refine rm_iast8 (pc := 70) (j := (40 * r + i).toNat + k) dX11_lay_70 (by assumption) (by first | assumption | exact b01_r | exact bz_r | omega | (constructor <;> omega) | exact hM _ | exact hPo _ | exact hTa _ | exact hRo _) (by first | assumption | exact b01_r | exact bz_r | omega | (constructor <;> omega) | exact hM _ | exact hPo _ | exact hTa _ | exact hRo _) (by first | assumption | exact b01_r | exact bz_r | omega | (constructor <;> omega) | exact hM _ | exact hPo _ | exact hTa _ | exact hRo _) (by omega) (fun h_70 hB_70 hS_70 => ?_)
          rw [layR_s] at hB_70
          refine rj_iinc (pc := 71) dX11_lay_71 (Nat.le_of_ble_eq_true rfl) rfl ?_
          dsimp only [lsSt, List.set, mLs, mEnt]
          refine r_goto (pc := 74) (tgt := 15) dX11_lay_74 (by decide) ?_
          have y := ih (k + 1) _ (by omega) (fun _ => by omega) hB_70
          rw [show ((k + 1 : Nat) : Int) = (k : Int) + 1 by omega] at y
          exact y.mono (fun v h' q => ⟨q.1, q.2.1, hS_70.trans q.2.2⟩)
        · refine rj_bipush (pc := 43) dX11_lay_43 (by decide +kernel) ?_
          refine r_ireturn (pc := 45) .int dX11_lay_45 rfl (by first | rfl | assumption) ?_
          rw [show layV m rwd r i = -13 by unfold layV; rw [if_pos hw, if_neg (by omega)]]
          rw [show layN (m 2) (rwd r.toNat) i = k by unfold layN; split <;> (try split) <;> omega]
          exact ⟨rfl, hB0, Same.refl⟩
end mg_73

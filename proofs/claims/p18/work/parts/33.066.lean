section mg_43
set_option maxHeartbeats 4000000 in
set_option maxRecDepth 100000 in
theorem L_row {G : mG} {l : Launch} (d : Nat) {x s : Nat} {f4 f6 f8 f9 f10 f11 f12 f13 f14 f16 f18 : Int} {m kp was pool tape pln pap rwd rw : Nat → Int} {a n : Int} (h0 : 0 ≤ a ∧ a ≤ 3) : ∀ (j k : Nat) (h : mH), isM h x (mFs x f4 f6 f8 f9 f10 f11 f12 f13 f14 f16 f18 s) m kp was pool tape pln pap rwd (zrF rw (40 * a.toNat) k) → k + j = 40 → RUN G l d mX11_row 34 [some (.ref x), some (.int (J a)), some (.int (J n)), some (.int (J (k : Int)))] [] h (fun v h' => v = some (.int (J 1)) ∧ isM h' x (mFs x f4 f6 f8 f9 f10 f11 f12 f13 f14 f16 f18 s) m kp was pool tape pln pap rwd (zrF rw (40 * a.toNat) 40) ∧ Same (mBlk x) h h') := by
  intro j
  induction j with
  | zero =>
    intro k h hB hk
    dsimp only [mFs] at hB
    refine r_iload_n (pc := 34) dX11_row_34 rfl ?_
    refine rj_bipush (pc := 35) dX11_row_35 (by decide +kernel) ?_
    refine rj_icmp_ge (pc := 37) (tgt := 58) dX11_row_37 (by decide) (by first | assumption | exact b01_r | exact bz_r | omega | (constructor <;> omega) | exact hM _ | exact hPo _ | exact hTa _ | exact hRo _) (by first | assumption | exact b01_r | exact bz_r | omega | (constructor <;> omega) | exact hM _ | exact hPo _ | exact hTa _ | exact hRo _) (fun c_37 => ?_) (fun c_37 => ?_)
    · refine rj_iconst (pc := 58) dX11_row_58 ?_
      refine r_ireturn (pc := 59) .int dX11_row_59 rfl (by first | rfl | assumption) ?_
      have e : k = 40 := by omega
      subst e
      exact ⟨rfl, hB, Same.refl⟩
    · exfalso; omega
  | succ j ih =>
    intro k h hB hk
    dsimp only [mFs] at hB
    refine r_iload_n (pc := 34) dX11_row_34 rfl ?_
    refine rj_bipush (pc := 35) dX11_row_35 (by decide +kernel) ?_
    refine rj_icmp_ge (pc := 37) (tgt := 58) dX11_row_37 (by decide) (by first | assumption | exact b01_r | exact bz_r | omega | (constructor <;> omega) | exact hM _ | exact hPo _ | exact hTa _ | exact hRo _) (by first | assumption | exact b01_r | exact bz_r | omega | (constructor <;> omega) | exact hM _ | exact hPo _ | exact hTa _ | exact hRo _) (fun c_37 => ?_) (fun c_37 => ?_)
    · refine rj_iconst (pc := 58) dX11_row_58 ?_
      refine r_ireturn (pc := 59) .int dX11_row_59 rfl (by first | rfl | assumption) ?_
      exfalso; omega
    · refine r_aload_n (pc := 40) dX11_row_40 rfl (by first | rfl | exact isRefV_rf _) ?_
      refine rm_getf (pc := 41) dX11_row_41 fX11_39 (by assumption) rfl ?_
      refine rj_bipush (pc := 44) dX11_row_44 (by decide +kernel) ?_
      refine r_iload_n (pc := 46) dX11_row_46 rfl ?_
      refine rj_imul (pc := 47) dX11_row_47 ?_
      refine r_iload_n (pc := 48) dX11_row_48 rfl ?_
      refine rj_iadd (pc := 49) dX11_row_49 ?_
      refine rj_iconst (pc := 50) dX11_row_50 ?_
      first | refine rm_iast8 (pc := 51) (j := 40 * a.toNat + k) dX11_row_51 (by assumption) (by first | assumption | exact b01_r | exact bz_r | omega | (constructor <;> omega) | exact hM _ | exact hPo _ | exact hTa _ | exact hRo _) (by first | assumption | exact b01_r | exact bz_r | omega | (constructor <;> omega) | exact hM _ | exact hPo _ | exact hTa _ | exact hRo _) (by first | assumption | exact b01_r | exact bz_r | omega | (constructor <;> omega) | exact hM _ | exact hPo _ | exact hTa _ | exact hRo _) (by omega) (fun h_51 hB_51 hS_51 => ?_)
      rw [zrF_s] at hB_51
      refine rj_iinc (pc := 52) dX11_row_52 (Nat.le_of_ble_eq_true rfl) rfl ?_
      dsimp only [lsSt, List.set, mLs, mEnt]
      refine r_goto (pc := 55) (tgt := 34) dX11_row_55 (by decide) ?_
      have z := ih (k + 1) h_51 hB_51 (by omega)
      exact z.mono (fun v h' g => ⟨g.1, g.2.1, hS_51.trans g.2.2⟩)
end mg_43

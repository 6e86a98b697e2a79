section mg_24
set_option maxHeartbeats 4000000 in
set_option maxRecDepth 100000 in
theorem L_name {G : mG} {l : Launch} (d : Nat) {x s : Nat} {f4 f6 f9 f14 f16 f18 : Int} {m kp was pool tape pln pap rwd rw sr : Nat → Int} (hT : txOk s sr pool tape f9) : ∀ (n k : Nat) (q : PS) (h : mH), isM h x (mFs x f4 f6 q.1 f9 q.2.1 q.2.2.1 q.2.2.2.1 q.2.2.2.2 f14 f16 f18 s) m kp was pool tape pln pap rwd rw → psOk f9 q → k + n = 7 → RUN G l (d + 2) mX11_isName 25 [some (.ref x), some (.int (J (k : Int)))] [] h (fun v h' => v = some (.int (J 1)) ∧ isM h' x (mFs x f4 f6 (nameL sr f9 n q).1 f9 (nameL sr f9 n q).2.1 (nameL sr f9 n q).2.2.1 (nameL sr f9 n q).2.2.2.1 (nameL sr f9 n q).2.2.2.2 f14 f16 f18 s) m kp was pool tape pln pap rwd rw ∧ Same (mBlk x) h h') := by
  obtain ⟨hs, hl0, hby⟩ := id hT
  have h97 : f9 ≤ 12342 := by rcases hs with h | h <;> omega
  intro n
  induction n with
  | zero =>
    intro k q h hB hq hk
    have hB0 := hB
    dsimp only [mFs] at hB
    obtain ⟨hq1, hq2, hq3, hq4, hq5, hq6, hq7, hq8⟩ := id hq
    have hh := here_r hT q.1
    refine r_iload_n (pc := 25) dX11_isName_25 rfl ?_
    refine rj_bipush (pc := 26) dX11_isName_26 (by decide +kernel) ?_
    refine rj_icmp_ge (pc := 28) (tgt := 61) dX11_isName_28 (by decide) (by first | assumption | exact b01_r | exact bz_r | omega | (constructor <;> omega) | exact hM _ | exact hPo _ | exact hTa _ | exact hRo _) (by first | assumption | exact b01_r | exact bz_r | omega | (constructor <;> omega) | exact hM _ | exact hPo _ | exact hTa _ | exact hRo _) (fun c_28 => ?_) (fun c_28 => ?_)
    · refine rj_iconst (pc := 61) dX11_isName_61 ?_
      refine r_ireturn (pc := 62) .boolean dX11_isName_62 rfl (by first | exact nar_J0 | exact nar_J1 | exact nar_b01 | exact nar_bz) ?_
      exact ⟨rfl, hB0, Same.refl⟩
    · exfalso; omega
  | succ n ih =>
    intro k q h hB hq hk
    have hB0 := hB
    dsimp only [mFs] at hB
    obtain ⟨hq1, hq2, hq3, hq4, hq5, hq6, hq7, hq8⟩ := id hq
    have hh := here_r hT q.1
    refine r_iload_n (pc := 25) dX11_isName_25 rfl ?_
    refine rj_bipush (pc := 26) dX11_isName_26 (by decide +kernel) ?_
    refine rj_icmp_ge (pc := 28) (tgt := 61) dX11_isName_28 (by decide) (by first | assumption | exact b01_r | exact bz_r | omega | (constructor <;> omega) | exact hM _ | exact hPo _ | exact hTa _ | exact hRo _) (by first | assumption | exact b01_r | exact bz_r | omega | (constructor <;> omega) | exact hM _ | exact hPo _ | exact hTa _ | exact hRo _) (fun c_28 => ?_) (fun c_28 => ?_)
    · exfalso; omega
    · refine r_aload_n (pc := 31) dX11_isName_31 rfl (by first | rfl | exact isRefV_rf _) ?_
      refine r_callV0 (pc := 32) dX11_isName_32 qX11_here kX11_74 vX11_here (by exact isM.gx (by assumption)) rfl rfl (Nat.le_of_ble_eq_true rfl) (m_here (d + 1) hB0 hT hq) (fun v_32 h_32 q_32 => ?_)
      obtain ⟨rfl, rfl⟩ := q_32
      refine rj_bipush (pc := 35) dX11_isName_35 (by decide +kernel) ?_
      refine rj_bipush (pc := 37) dX11_isName_37 (by decide +kernel) ?_
      refine r_callS3 (pc := 39) dX11_isName_39 qX11_isIn kX11_46 sX11_isIn (Nat.le_of_ble_eq_true rfl) (m_isIn (d + 1) ⟨by omega, by omega⟩ (by decide) (by decide)) (fun v_39 h_39 q_39 => ?_)
      obtain ⟨rfl, rfl⟩ := q_39
      refine rj_if_eq (pc := 42) (tgt := 61) dX11_isName_42 (by decide) (by first | assumption | exact b01_r | exact bz_r | omega | (constructor <;> omega) | exact hM _ | exact hPo _ | exact hTa _ | exact hRo _) (fun c_42 => ?_) (fun c_42 => ?_)
      · try simp only [b01_0, bz_0, Classical.not_not] at c_42
        rw [show nameL sr f9 (n + 1) q = q by unfold nameL; rw [if_neg c_42]]
        refine rj_iconst (pc := 61) dX11_isName_61 ?_
        refine r_ireturn (pc := 62) .boolean dX11_isName_62 rfl (by first | exact nar_J0 | exact nar_J1 | exact nar_b01 | exact nar_bz) ?_
        exact ⟨rfl, hB0, Same.refl⟩
      · try simp only [b01_0, bz_0, Classical.not_not] at c_42
        refine r_aload_n (pc := 45) dX11_isName_45 rfl (by first | rfl | exact isRefV_rf _) ?_
        refine r_dup (pc := 46) dX11_isName_46 (by first | rfl | (cases ‹Option Nat› <;> rfl)) ?_
        refine rm_getf (pc := 47) dX11_isName_47 fX11_65 (by assumption) rfl ?_
        refine rj_iconst (pc := 50) dX11_isName_50 ?_
        refine rj_iadd (pc := 51) dX11_isName_51 ?_
        refine rm_putf (pc := 52) dX11_isName_52 fX11_65 (by assumption) rfl rfl (Nat.le_of_ble_eq_true rfl) (fun h_52 hB_52 hS_52 => ?_)
        dsimp only [List.set, mFs] at hB_52
        refine rj_iinc (pc := 55) dX11_isName_55 (Nat.le_of_ble_eq_true rfl) rfl ?_
        dsimp only [lsSt, List.set, mLs, mEnt]
        refine r_goto (pc := 58) (tgt := 25) dX11_isName_58 (by decide) ?_
        have hl := here_lt (sr := sr) (len := f9) (a := q.1) (by omega)
        have z := ih (k + 1) (advF q) _ hB_52 (adv_ok hq hl) (by omega)
        rw [show nameL sr f9 (n + 1) q = nameL sr f9 n (advF q) by rw [nameL, if_pos c_42]]
        exact z.mono (fun v h' g => ⟨g.1, g.2.1, hS_52.trans g.2.2⟩)
end mg_24

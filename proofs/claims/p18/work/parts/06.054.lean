section mg_27
set_option maxHeartbeats 4000000 in
set_option maxRecDepth 100000 in
theorem m_isWhole {G : mG} {l : Launch} (d : Nat) {h : mH} {x s : Nat} {f4 f6 f9 f14 f16 f18 : Int} {q : PS} {m kp was pool tape pln pap rwd rw sr : Nat → Int} (hB : isM h x (mFs x f4 f6 q.1 f9 q.2.1 q.2.2.1 q.2.2.2.1 q.2.2.2.2 f14 f16 f18 s) m kp was pool tape pln pap rwd rw) (hT : txOk s sr pool tape f9) (hq : psOk f9 q) : RUNM G l (d + 1) mX11_isWhole [.ref x] h (fun v h' => v = some (.int (J (bz (wholeR f9 q).1))) ∧ isM h' x (mFs x f4 f6 ((wholeR f9 q).2).1 f9 ((wholeR f9 q).2).2.1 ((wholeR f9 q).2).2.2.1 ((wholeR f9 q).2).2.2.2.1 ((wholeR f9 q).2).2.2.2.2 f14 f16 f18 s) m kp was pool tape pln pap rwd rw ∧ Same (mBlk x) h h') := by
  dsimp only [mFs] at hB
  refine RUNM.of (by decide +kernel) (Nat.le_of_ble_eq_true rfl) ?_
  have hB0 := hB
  obtain ⟨hq1, hq2, hq3, hq4, hq5, hq6, hq7, hq8⟩ := id hq
  obtain ⟨hs, hl0, hby⟩ := id hT
  have h97 : f9 ≤ 12342 := by rcases hs with h | h <;> omega
  refine r_aload_n (pc := 0) dX11_isWhole_0 rfl (by first | rfl | exact isRefV_rf _) ?_
  refine rm_getf (pc := 1) dX11_isWhole_1 fX11_65 (by assumption) rfl ?_
  refine r_aload_n (pc := 4) dX11_isWhole_4 rfl (by first | rfl | exact isRefV_rf _) ?_
  refine rm_getf (pc := 5) dX11_isWhole_5 fX11_68 (by assumption) rfl ?_
  refine rj_icmp_ne (pc := 8) (tgt := 18) dX11_isWhole_8 (by decide) (by first | assumption | exact b01_r | exact bz_r | omega | (constructor <;> omega) | exact hM _ | exact hPo _ | exact hTa _ | exact hRo _) (by first | assumption | exact b01_r | exact bz_r | omega | (constructor <;> omega) | exact hM _ | exact hPo _ | exact hTa _ | exact hRo _) (fun c_8 => ?_) (fun c_8 => ?_)
  · refine r_aload_n (pc := 18) dX11_isWhole_18 rfl (by first | rfl | exact isRefV_rf _) ?_
    refine r_aload_n (pc := 19) dX11_isWhole_19 rfl (by first | rfl | exact isRefV_rf _) ?_
    refine rm_getf (pc := 20) dX11_isWhole_20 fX11_65 (by assumption) rfl ?_
    refine r_callV1 (pc := 23) dX11_isWhole_23 qX11_fails kX11_78 vX11_fails (by exact isM.gx (by assumption)) rfl rfl (Nat.le_of_ble_eq_true rfl) (m_fails d hB0 hT hq) (fun v_23 h_23 q_23 => ?_)
    obtain ⟨rfl, hB_23, hS_23⟩ := q_23
    refine rj_if_eq (pc := 26) (tgt := 33) dX11_isWhole_26 (by decide) (by first | assumption | exact b01_r | exact bz_r | omega | (constructor <;> omega) | exact hM _ | exact hPo _ | exact hTa _ | exact hRo _) (fun c_26 => ?_) (fun c_26 => ?_)
    · try simp only [b01_0, bz_0, Classical.not_not] at c_26
      refine rj_iconst (pc := 33) dX11_isWhole_33 ?_
      refine r_ireturn (pc := 34) .boolean dX11_isWhole_34 rfl (by first | exact nar_J0 | exact nar_J1 | exact nar_b01 | exact nar_bz) ?_
      first
      | exact ⟨by unfold wholeR; rw [if_pos ⟨by omega, by omega⟩]; exact bzT, by unfold wholeR; rw [if_pos ⟨by omega, by omega⟩]; exact hB0, Same.refl⟩
      | exact ⟨by unfold wholeR; rw [if_neg (by omega)]; exact bzF, by unfold wholeR; rw [if_neg (by omega)]; exact hB_23, hS_23⟩
      | exact absurd trivial c_26
    · try simp only [b01_0, bz_0, Classical.not_not] at c_26
      refine rj_iconst (pc := 29) dX11_isWhole_29 ?_
      refine r_goto (pc := 30) (tgt := 34) dX11_isWhole_30 (by decide) ?_
      refine r_ireturn (pc := 34) .boolean dX11_isWhole_34 rfl (by first | exact nar_J0 | exact nar_J1 | exact nar_b01 | exact nar_bz) ?_
      first
      | exact ⟨by unfold wholeR; rw [if_pos ⟨by omega, by omega⟩]; exact bzT, by unfold wholeR; rw [if_pos ⟨by omega, by omega⟩]; exact hB0, Same.refl⟩
      | exact ⟨by unfold wholeR; rw [if_neg (by omega)]; exact bzF, by unfold wholeR; rw [if_neg (by omega)]; exact hB_23, hS_23⟩
      | exact absurd trivial c_26
  · refine r_aload_n (pc := 11) dX11_isWhole_11 rfl (by first | rfl | exact isRefV_rf _) ?_
    refine rm_getf (pc := 12) dX11_isWhole_12 fX11_99 (by assumption) rfl ?_
    refine rj_if_eq (pc := 15) (tgt := 29) dX11_isWhole_15 (by decide) (by first | assumption | exact b01_r | exact bz_r | omega | (constructor <;> omega) | exact hM _ | exact hPo _ | exact hTa _ | exact hRo _) (fun c_15 => ?_) (fun c_15 => ?_)
    · try simp only [b01_0, bz_0, Classical.not_not] at c_15
      refine rj_iconst (pc := 29) dX11_isWhole_29 ?_
      refine r_goto (pc := 30) (tgt := 34) dX11_isWhole_30 (by decide) ?_
      refine r_ireturn (pc := 34) .boolean dX11_isWhole_34 rfl (by first | exact nar_J0 | exact nar_J1 | exact nar_b01 | exact nar_bz) ?_
      first
      | exact ⟨by unfold wholeR; rw [if_pos ⟨by omega, by omega⟩]; exact bzT, by unfold wholeR; rw [if_pos ⟨by omega, by omega⟩]; exact hB0, Same.refl⟩
      | exact ⟨by unfold wholeR; rw [if_neg (by omega)]; exact bzF, by unfold wholeR; rw [if_neg (by omega)]; exact hB_23, hS_23⟩
      | exact absurd trivial c_26
    · try simp only [b01_0, bz_0, Classical.not_not] at c_15
      refine r_aload_n (pc := 18) dX11_isWhole_18 rfl (by first | rfl | exact isRefV_rf _) ?_
      refine r_aload_n (pc := 19) dX11_isWhole_19 rfl (by first | rfl | exact isRefV_rf _) ?_
      refine rm_getf (pc := 20) dX11_isWhole_20 fX11_65 (by assumption) rfl ?_
      refine r_callV1 (pc := 23) dX11_isWhole_23 qX11_fails kX11_78 vX11_fails (by exact isM.gx (by assumption)) rfl rfl (Nat.le_of_ble_eq_true rfl) (m_fails d hB0 hT hq) (fun v_23 h_23 q_23 => ?_)
      obtain ⟨rfl, hB_23, hS_23⟩ := q_23
      refine rj_if_eq (pc := 26) (tgt := 33) dX11_isWhole_26 (by decide) (by first | assumption | exact b01_r | exact bz_r | omega | (constructor <;> omega) | exact hM _ | exact hPo _ | exact hTa _ | exact hRo _) (fun c_26 => ?_) (fun c_26 => ?_)
      · try simp only [b01_0, bz_0, Classical.not_not] at c_26
        refine rj_iconst (pc := 33) dX11_isWhole_33 ?_
        refine r_ireturn (pc := 34) .boolean dX11_isWhole_34 rfl (by first | exact nar_J0 | exact nar_J1 | exact nar_b01 | exact nar_bz) ?_
        first
        | exact ⟨by unfold wholeR; rw [if_pos ⟨by omega, by omega⟩]; exact bzT, by unfold wholeR; rw [if_pos ⟨by omega, by omega⟩]; exact hB0, Same.refl⟩
        | exact ⟨by unfold wholeR; rw [if_neg (by omega)]; exact bzF, by unfold wholeR; rw [if_neg (by omega)]; exact hB_23, hS_23⟩
        | exact absurd trivial c_26
      · try simp only [b01_0, bz_0, Classical.not_not] at c_26
        refine rj_iconst (pc := 29) dX11_isWhole_29 ?_
        refine r_goto (pc := 30) (tgt := 34) dX11_isWhole_30 (by decide) ?_
        refine r_ireturn (pc := 34) .boolean dX11_isWhole_34 rfl (by first | exact nar_J0 | exact nar_J1 | exact nar_b01 | exact nar_bz) ?_
        first
        | exact ⟨by unfold wholeR; rw [if_pos ⟨by omega, by omega⟩]; exact bzT, by unfold wholeR; rw [if_pos ⟨by omega, by omega⟩]; exact hB0, Same.refl⟩
        | exact ⟨by unfold wholeR; rw [if_neg (by omega)]; exact bzF, by unfold wholeR; rw [if_neg (by omega)]; exact hB_23, hS_23⟩
        | exact absurd trivial c_26
end mg_27

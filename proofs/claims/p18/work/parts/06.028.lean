section mg_24
set_option maxHeartbeats 4000000 in
set_option maxRecDepth 100000 in
theorem m_fails {G : mG} {l : Launch} (d : Nat) {h : mH} {x s : Nat} {f4 f6 f9 f14 f16 f18 : Int} {q : PS} {m kp was pool tape pln pap rwd rw sr : Nat → Int} (hB : isM h x (mFs x f4 f6 q.1 f9 q.2.1 q.2.2.1 q.2.2.2.1 q.2.2.2.2 f14 f16 f18 s) m kp was pool tape pln pap rwd rw) (hT : txOk s sr pool tape f9) (hq : psOk f9 q) {p : Int} : RUNM G l (d) mX11_fails [.ref x, .int (J p)] h (fun v h' => v = some (.int (J 0)) ∧ isM h' x (mFs x f4 f6 (failF p q).1 f9 (failF p q).2.1 (failF p q).2.2.1 (failF p q).2.2.2.1 (failF p q).2.2.2.2 f14 f16 f18 s) m kp was pool tape pln pap rwd rw ∧ Same (mBlk x) h h') := by
  dsimp only [mFs] at hB
  refine RUNM.of (by decide +kernel) (Nat.le_of_ble_eq_true rfl) ?_
  obtain ⟨hq1, hq2, hq3, hq4, hq5, hq6, hq7, hq8⟩ := id hq
  obtain ⟨hs, hl0, hby⟩ := id hT
  refine r_aload_n (pc := 0) dX11_fails_0 rfl (by first | rfl | exact isRefV_rf _) ?_
  refine rm_getf (pc := 1) dX11_fails_1 fX11_71 (by assumption) rfl ?_
  refine rj_if_ge (pc := 4) (tgt := 12) dX11_fails_4 (by decide) (by first | assumption | exact b01_r | exact bz_r | omega | (constructor <;> omega) | exact hM _ | exact hPo _ | exact hTa _ | exact hRo _) (fun c_4 => ?_) (fun c_4 => ?_)
  · refine rj_iconst (pc := 12) dX11_fails_12 ?_
    refine r_ireturn (pc := 13) .boolean dX11_fails_13 rfl (by first | exact nar_J0 | exact nar_J1 | exact nar_b01 | exact nar_bz) ?_
    first
    | exact ⟨rfl, by unfold failF; rw [if_neg (by omega)]; exact hB, Same.refl⟩
    | exact ⟨rfl, by unfold failF; rw [if_pos (by omega)]; exact hB_9, hS_9⟩
  · refine r_aload_n (pc := 7) dX11_fails_7 rfl (by first | rfl | exact isRefV_rf _) ?_
    refine r_iload_n (pc := 8) dX11_fails_8 rfl ?_
    refine rm_putf (pc := 9) dX11_fails_9 fX11_71 (by assumption) rfl rfl (Nat.le_of_ble_eq_true rfl) (fun h_9 hB_9 hS_9 => ?_)
    dsimp only [List.set, mFs] at hB_9
    refine rj_iconst (pc := 12) dX11_fails_12 ?_
    refine r_ireturn (pc := 13) .boolean dX11_fails_13 rfl (by first | exact nar_J0 | exact nar_J1 | exact nar_b01 | exact nar_bz) ?_
    first
    | exact ⟨rfl, by unfold failF; rw [if_neg (by omega)]; exact hB, Same.refl⟩
    | exact ⟨rfl, by unfold failF; rw [if_pos (by omega)]; exact hB_9, hS_9⟩
end mg_24

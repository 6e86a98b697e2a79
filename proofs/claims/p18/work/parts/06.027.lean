section mg_24
set_option maxHeartbeats 4000000 in
set_option maxRecDepth 100000 in
theorem m_here {G : mG} {l : Launch} (d : Nat) {h : mH} {x s : Nat} {f4 f6 f9 f14 f16 f18 : Int} {q : PS} {m kp was pool tape pln pap rwd rw sr : Nat → Int} (hB : isM h x (mFs x f4 f6 q.1 f9 q.2.1 q.2.2.1 q.2.2.2.1 q.2.2.2.2 f14 f16 f18 s) m kp was pool tape pln pap rwd rw) (hT : txOk s sr pool tape f9) (hq : psOk f9 q) : RUNM G l (d) mX11_here [.ref x] h (fun v h' => v = some (.int (J (hereF sr f9 q.1))) ∧ h' = h) := by
  dsimp only [mFs] at hB
  obtain ⟨hq1, hq2, hq3, hq4, hq5, hq6, hq7, hq8⟩ := id hq
  obtain ⟨hs, hl0, hby⟩ := id hT
  rcases hs with ⟨rfl, rfl, h120⟩ | ⟨rfl, rfl, h120⟩
  · refine RUNM.of (by decide +kernel) (Nat.le_of_ble_eq_true rfl) ?_
    refine r_aload_n (pc := 0) dX11_here_0 rfl (by first | rfl | exact isRefV_rf _) ?_
    refine rm_getf (pc := 1) dX11_here_1 fX11_65 (by assumption) rfl ?_
    refine r_aload_n (pc := 4) dX11_here_4 rfl (by first | rfl | exact isRefV_rf _) ?_
    refine rm_getf (pc := 5) dX11_here_5 fX11_68 (by assumption) rfl ?_
    refine rj_icmp_ge (pc := 8) (tgt := 23) dX11_here_8 (by decide) (by first | assumption | exact b01_r | exact bz_r | omega | (constructor <;> omega) | exact hM _ | exact hPo _ | exact hTa _ | exact hRo _) (by first | assumption | exact b01_r | exact bz_r | omega | (constructor <;> omega) | exact hM _ | exact hPo _ | exact hTa _ | exact hRo _) (fun c_8 => ?_) (fun c_8 => ?_)
    · refine rj_iconst (pc := 23) dX11_here_23 ?_
      refine r_ireturn (pc := 24) .int dX11_here_24 rfl (by first | rfl | assumption) ?_
      exact ⟨by unfold hereF; first | rw [if_pos (by omega)] | rw [if_neg (by omega)], rfl⟩
    · refine r_aload_n (pc := 11) dX11_here_11 rfl (by first | rfl | exact isRefV_rf _) ?_
      refine rm_getf (pc := 12) dX11_here_12 fX11_27 (by assumption) rfl ?_
      refine r_aload_n (pc := 15) dX11_here_15 rfl (by first | rfl | exact isRefV_rf _) ?_
      refine rm_getf (pc := 16) dX11_here_16 fX11_65 (by assumption) rfl ?_
      refine rj_iald (pc := 19) dX11_here_19 (by first | exact isM.g0 (by assumption) | exact isM.g3 (by assumption) | exact isM.g4 (by assumption) | exact isM.g8 (by assumption) | exact isM.g7 (by assumption) | exact isM.g6 (by assumption) | exact isM.g5 (by assumption) | exact isM.g1 (by assumption) | exact isM.g2 (by assumption)) (by first | assumption | exact b01_r | exact bz_r | omega | (constructor <;> omega) | exact hM _ | exact hPo _ | exact hTa _ | exact hRo _) (by first | assumption | exact b01_r | exact bz_r | omega | (constructor <;> omega) | exact hM _ | exact hPo _ | exact hTa _ | exact hRo _) (by first | assumption | exact b01_r | exact bz_r | omega | (constructor <;> omega) | exact hM _ | exact hPo _ | exact hTa _ | exact hRo _) rfl ?_
      refine r_goto (pc := 20) (tgt := 24) dX11_here_20 (by decide) ?_
      refine r_ireturn (pc := 24) .int dX11_here_24 rfl (by first | rfl | assumption) ?_
      exact ⟨by unfold hereF; first | rw [if_pos (by omega)] | rw [if_neg (by omega)], rfl⟩
  · refine RUNM.of (by decide +kernel) (Nat.le_of_ble_eq_true rfl) ?_
    refine r_aload_n (pc := 0) dX11_here_0 rfl (by first | rfl | exact isRefV_rf _) ?_
    refine rm_getf (pc := 1) dX11_here_1 fX11_65 (by assumption) rfl ?_
    refine r_aload_n (pc := 4) dX11_here_4 rfl (by first | rfl | exact isRefV_rf _) ?_
    refine rm_getf (pc := 5) dX11_here_5 fX11_68 (by assumption) rfl ?_
    refine rj_icmp_ge (pc := 8) (tgt := 23) dX11_here_8 (by decide) (by first | assumption | exact b01_r | exact bz_r | omega | (constructor <;> omega) | exact hM _ | exact hPo _ | exact hTa _ | exact hRo _) (by first | assumption | exact b01_r | exact bz_r | omega | (constructor <;> omega) | exact hM _ | exact hPo _ | exact hTa _ | exact hRo _) (fun c_8 => ?_) (fun c_8 => ?_)
    · refine rj_iconst (pc := 23) dX11_here_23 ?_
      refine r_ireturn (pc := 24) .int dX11_here_24 rfl (by first | rfl | assumption) ?_
      exact ⟨by unfold hereF; first | rw [if_pos (by omega)] | rw [if_neg (by omega)], rfl⟩
    · refine r_aload_n (pc := 11) dX11_here_11 rfl (by first | rfl | exact isRefV_rf _) ?_
      refine rm_getf (pc := 12) dX11_here_12 fX11_27 (by assumption) rfl ?_
      refine r_aload_n (pc := 15) dX11_here_15 rfl (by first | rfl | exact isRefV_rf _) ?_
      refine rm_getf (pc := 16) dX11_here_16 fX11_65 (by assumption) rfl ?_
      refine rj_iald (pc := 19) dX11_here_19 (by first | exact isM.g0 (by assumption) | exact isM.g3 (by assumption) | exact isM.g4 (by assumption) | exact isM.g8 (by assumption) | exact isM.g7 (by assumption) | exact isM.g6 (by assumption) | exact isM.g5 (by assumption) | exact isM.g1 (by assumption) | exact isM.g2 (by assumption)) (by first | assumption | exact b01_r | exact bz_r | omega | (constructor <;> omega) | exact hM _ | exact hPo _ | exact hTa _ | exact hRo _) (by first | assumption | exact b01_r | exact bz_r | omega | (constructor <;> omega) | exact hM _ | exact hPo _ | exact hTa _ | exact hRo _) (by first | assumption | exact b01_r | exact bz_r | omega | (constructor <;> omega) | exact hM _ | exact hPo _ | exact hTa _ | exact hRo _) rfl ?_
      refine r_goto (pc := 20) (tgt := 24) dX11_here_20 (by decide) ?_
      refine r_ireturn (pc := 24) .int dX11_here_24 rfl (by first | rfl | assumption) ?_
      exact ⟨by unfold hereF; first | rw [if_pos (by omega)] | rw [if_neg (by omega)], rfl⟩
end mg_24

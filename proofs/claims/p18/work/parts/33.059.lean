section mg_42
set_option maxHeartbeats 4000000 in
set_option maxRecDepth 100000 in
theorem m_stampOfI {G : mG} {l : Launch} (d : Nat) {h : mH} {x s : Nat} {f4 f6 f8 f9 f10 f11 f12 f13 f14 f16 f18 : Int} {m kp was pool tape pln pap rwd rw : Nat → Int}(hB : isM h x (mFs x f4 f6 f8 f9 f10 f11 f12 f13 f14 f16 f18 s) m kp was pool tape pln pap rwd rw) {e : Int} (he : e ≤ 159) (he0 : -5 ≤ e) : RUNM G l (d + 1) mX11_stampOf [.ref x, .int (J e)] h (fun v h' => v = some (.int (J (stampI m e))) ∧ h' = h) := by
  dsimp only [mFs] at hB
  refine RUNM.of (by decide +kernel) (Nat.le_of_ble_eq_true rfl) ?_
  refine r_iload_n (pc := 0) dX11_stampOf_0 rfl ?_
  refine rj_bipush (pc := 1) dX11_stampOf_1 (by decide +kernel) ?_
  refine rj_icmp_ge (pc := 3) (tgt := 20) dX11_stampOf_3 (by decide) (by first | assumption | exact b01_r | exact bz_r | omega | (constructor <;> omega) | exact hM _ | exact hPo _ | exact hTa _ | exact hRo _) (by first | assumption | exact b01_r | exact bz_r | omega | (constructor <;> omega) | exact hM _ | exact hPo _ | exact hTa _ | exact hRo _) (fun c_3 => ?_) (fun c_3 => ?_)
  · refine r_aload_n (pc := 20) dX11_stampOf_20 rfl (by first | rfl | exact isRefV_rf _) ?_
    refine rm_getf (pc := 21) dX11_stampOf_21 fX11_11 (by assumption) rfl ?_
    refine r_iload_n (pc := 24) dX11_stampOf_24 rfl ?_
    refine rj_bipush (pc := 25) dX11_stampOf_25 (by decide +kernel) ?_
    refine rj_isub (pc := 27) dX11_stampOf_27 ?_
    refine rj_iconst (pc := 28) dX11_stampOf_28 ?_
    refine r_callS2 (pc := 29) dX11_stampOf_29 qX11_ofScope kX11_42 sX11_ofScope (Nat.le_of_ble_eq_true rfl) (m_ofScope d) (fun v_29 h_29 q_29 => ?_)
    obtain ⟨rfl, rfl⟩ := q_29
    refine rj_iald (pc := 32) (j := (20 + 4 * (e - 100)).toNat) dX11_stampOf_32 (by first | exact isM.g0 (by assumption) | exact isM.g3 (by assumption) | exact isM.g4 (by assumption) | exact isM.g8 (by assumption) | exact isM.g7 (by assumption) | exact isM.g6 (by assumption) | exact isM.g5 (by assumption) | exact isM.g1 (by assumption) | exact isM.g2 (by assumption)) (by first | assumption | exact b01_r | exact bz_r | omega | (constructor <;> omega) | exact hM _ | exact hPo _ | exact hTa _ | exact hRo _) (by first | assumption | exact b01_r | exact bz_r | omega | (constructor <;> omega) | exact hM _ | exact hPo _ | exact hTa _ | exact hRo _) (by first | assumption | exact b01_r | exact bz_r | omega | (constructor <;> omega) | exact hM _ | exact hPo _ | exact hTa _ | exact hRo _) (by omega) ?_
    refine r_ireturn (pc := 33) .int dX11_stampOf_33 rfl (by first | rfl | assumption) ?_
    first
    | exact ⟨by unfold stampI; rw [if_pos (by omega)], rfl⟩
    | exact ⟨by unfold stampI; rw [if_neg (by omega)], rfl⟩
  · refine r_aload_n (pc := 6) dX11_stampOf_6 rfl (by first | rfl | exact isRefV_rf _) ?_
    refine rm_getf (pc := 7) dX11_stampOf_7 fX11_11 (by assumption) rfl ?_
    refine r_iload_n (pc := 10) dX11_stampOf_10 rfl ?_
    refine rj_iconst (pc := 11) dX11_stampOf_11 ?_
    refine rj_iconst (pc := 12) dX11_stampOf_12 ?_
    refine r_callS3 (pc := 13) dX11_stampOf_13 qX11_ofThing kX11_54 sX11_ofThing (Nat.le_of_ble_eq_true rfl) (m_ofThing d) (fun v_13 h_13 q_13 => ?_)
    obtain ⟨rfl, rfl⟩ := q_13
    refine rj_iald (pc := 16) (j := (260 + 14 * e).toNat) dX11_stampOf_16 (by first | exact isM.g0 (by assumption) | exact isM.g3 (by assumption) | exact isM.g4 (by assumption) | exact isM.g8 (by assumption) | exact isM.g7 (by assumption) | exact isM.g6 (by assumption) | exact isM.g5 (by assumption) | exact isM.g1 (by assumption) | exact isM.g2 (by assumption)) (by first | assumption | exact b01_r | exact bz_r | omega | (constructor <;> omega) | exact hM _ | exact hPo _ | exact hTa _ | exact hRo _) (by first | assumption | exact b01_r | exact bz_r | omega | (constructor <;> omega) | exact hM _ | exact hPo _ | exact hTa _ | exact hRo _) (by first | assumption | exact b01_r | exact bz_r | omega | (constructor <;> omega) | exact hM _ | exact hPo _ | exact hTa _ | exact hRo _) (by omega) ?_
    refine r_goto (pc := 17) (tgt := 33) dX11_stampOf_17 (by decide) ?_
    refine r_ireturn (pc := 33) .int dX11_stampOf_33 rfl (by first | rfl | assumption) ?_
    first
    | exact ⟨by unfold stampI; rw [if_pos (by omega)], rfl⟩
    | exact ⟨by unfold stampI; rw [if_neg (by omega)], rfl⟩
end mg_42

section mg_33
set_option maxHeartbeats 4000000 in
set_option maxRecDepth 100000 in
theorem m_paper {G : mG} {l : Launch} (d : Nat) {h : mH} {x s : Nat} {f4 f6 f8 f9 f10 f11 f12 f13 f14 f16 f18 : Int} {m kp was pool tape pln pap rwd rw : Nat → Int}(hB : isM h x (mFs x f4 f6 f8 f9 f10 f11 f12 f13 f14 f16 f18 s) m kp was pool tape pln pap rwd rw) {i : Int} (hi : InR i) (h0 : 0 ≤ f18) (h1 : f18 ≤ 120) : RUNM G l (d + 1) mX11_paper [.ref x, .int (J i)] h (fun v h' => v = some (.int (J (paperV f18 pap i))) ∧ h' = h) := by
  dsimp only [mFs] at hB
  refine RUNM.of (by decide +kernel) (Nat.le_of_ble_eq_true rfl) ?_
  refine r_iload_n (pc := 0) dX11_paper_0 rfl ?_
  refine rj_iconst (pc := 1) dX11_paper_1 ?_
  refine r_aload_n (pc := 2) dX11_paper_2 rfl (by first | rfl | exact isRefV_rf _) ?_
  refine rm_getf (pc := 3) dX11_paper_3 fX11_298 (by assumption) rfl ?_
  refine rj_iconst (pc := 6) dX11_paper_6 ?_
  refine rj_isub (pc := 7) dX11_paper_7 ?_
  refine r_callS3 (pc := 8) dX11_paper_8 qX11_isIn kX11_46 sX11_isIn (Nat.le_of_ble_eq_true rfl) (m_isIn d hi (by decide) ⟨by omega, by omega⟩) (fun v_8 h_8 q_8 => ?_)
  obtain ⟨rfl, rfl⟩ := q_8
  refine rj_if_eq (pc := 11) (tgt := 23) dX11_paper_11 (by decide) (by first | assumption | exact b01_r | exact bz_r | omega | (constructor <;> omega) | exact hM _ | exact hPo _ | exact hTa _ | exact hRo _) (fun c_11 => ?_) (fun c_11 => ?_)
  · try simp only [b01_0, bz_0, Classical.not_not] at c_11
    refine rj_iconst (pc := 23) dX11_paper_23 ?_
    refine r_ireturn (pc := 24) .int dX11_paper_24 rfl (by first | rfl | assumption) ?_
    first
    | exact ⟨by unfold paperV; rw [if_pos c_11], rfl⟩
    | exact ⟨by unfold paperV; rw [if_neg c_11], rfl⟩
  · try simp only [b01_0, bz_0, Classical.not_not] at c_11
    refine r_aload_n (pc := 14) dX11_paper_14 rfl (by first | rfl | exact isRefV_rf _) ?_
    refine rm_getf (pc := 15) dX11_paper_15 fX11_33 (by assumption) rfl ?_
    refine r_iload_n (pc := 18) dX11_paper_18 rfl ?_
    refine rj_iald (pc := 19) dX11_paper_19 (by first | exact isM.g0 (by assumption) | exact isM.g3 (by assumption) | exact isM.g4 (by assumption) | exact isM.g8 (by assumption) | exact isM.g7 (by assumption) | exact isM.g6 (by assumption) | exact isM.g5 (by assumption) | exact isM.g1 (by assumption) | exact isM.g2 (by assumption)) (by first | assumption | exact b01_r | exact bz_r | omega | (constructor <;> omega) | exact hM _ | exact hPo _ | exact hTa _ | exact hRo _) (by first | assumption | exact b01_r | exact bz_r | omega | (constructor <;> omega) | exact hM _ | exact hPo _ | exact hTa _ | exact hRo _) (by first | assumption | exact b01_r | exact bz_r | omega | (constructor <;> omega) | exact hM _ | exact hPo _ | exact hTa _ | exact hRo _) rfl ?_
    refine r_goto (pc := 20) (tgt := 24) dX11_paper_20 (by decide) ?_
    refine r_ireturn (pc := 24) .int dX11_paper_24 rfl (by first | rfl | assumption) ?_
    first
    | exact ⟨by unfold paperV; rw [if_pos c_11], rfl⟩
    | exact ⟨by unfold paperV; rw [if_neg c_11], rfl⟩
end mg_33

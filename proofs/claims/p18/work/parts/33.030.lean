section mg_37
set_option maxHeartbeats 4000000 in
set_option maxRecDepth 100000 in
theorem m_below {G : mG} {l : Launch} (d : Nat) {h : mH} {x s : Nat} {f4 f6 f8 f9 f10 f11 f12 f13 f14 f16 f18 : Int} {m kp was pool tape pln pap rwd rw : Nat → Int}(hB : isM h x (mFs x f4 f6 f8 f9 f10 f11 f12 f13 f14 f16 f18 s) m kp was pool tape pln pap rwd rw) {C : Nat} (hC : m 0 = (C : Int)) (hC2 : C ≤ 60) (hP : parOk m C) {a o : Int} (ha : InR a) (ho : InR o) : RUNM G l (d + 2) mX11_below [.ref x, .int (J a), .int (J o)] h (fun v h' => v = some (.int (J (belowV m C a o))) ∧ h' = h) := by
  dsimp only [mFs] at hB
  refine RUNM.of (by decide +kernel) (Nat.le_of_ble_eq_true rfl) ?_
  refine r_aload_n (pc := 0) dX11_below_0 rfl (by first | rfl | exact isRefV_rf _) ?_
  refine r_iload_n (pc := 1) dX11_below_1 rfl ?_
  refine r_callV1 (pc := 2) dX11_below_2 qX11_isScope kX11_50 vX11_isScope (by exact isM.gx (by assumption)) rfl rfl (Nat.le_of_ble_eq_true rfl) (m_isScope d hB ha ⟨by omega, by omega⟩) (fun v_2 h_2 q_2 => ?_)
  obtain ⟨rfl, rfl⟩ := q_2
  refine rj_if_eq (pc := 5) (tgt := 16) dX11_below_5 (by decide) (by first | assumption | exact b01_r | exact bz_r | omega | (constructor <;> omega) | exact hM _ | exact hPo _ | exact hTa _ | exact hRo _) (fun c_5 => ?_) (fun c_5 => ?_)
  · try simp only [b01_0, bz_0, Classical.not_not] at c_5
    refine rj_iconst (pc := 16) dX11_below_16 ?_
    refine r_goto (pc := 17) (tgt := 34) dX11_below_17 (by decide) ?_
    refine r_ireturn (pc := 34) .int dX11_below_34 rfl (by first | rfl | assumption) ?_
    first
    | exact ⟨by unfold belowV; rw [if_neg (by omega)], rfl⟩
    | exact ⟨by unfold belowV; rw [if_pos ⟨c_5, c_13⟩, bz_t c_26], rfl⟩
    | exact ⟨by unfold belowV; rw [if_pos ⟨c_5, c_13⟩, bz_f c_26], rfl⟩
  · try simp only [b01_0, bz_0, Classical.not_not] at c_5
    refine r_aload_n (pc := 8) dX11_below_8 rfl (by first | rfl | exact isRefV_rf _) ?_
    refine r_iload_n (pc := 9) dX11_below_9 rfl ?_
    refine r_callV1 (pc := 10) dX11_below_10 qX11_isScope kX11_50 vX11_isScope (by exact isM.gx (by assumption)) rfl rfl (Nat.le_of_ble_eq_true rfl) (m_isScope d hB ho ⟨by omega, by omega⟩) (fun v_10 h_10 q_10 => ?_)
    obtain ⟨rfl, rfl⟩ := q_10
    refine rj_if_ne (pc := 13) (tgt := 20) dX11_below_13 (by decide) (by first | assumption | exact b01_r | exact bz_r | omega | (constructor <;> omega) | exact hM _ | exact hPo _ | exact hTa _ | exact hRo _) (fun c_13 => ?_) (fun c_13 => ?_)
    · try simp only [b01_0, bz_0, Classical.not_not] at c_13
      refine r_aload_n (pc := 20) dX11_below_20 rfl (by first | rfl | exact isRefV_rf _) ?_
      refine r_iload_n (pc := 21) dX11_below_21 rfl ?_
      refine r_iload_n (pc := 22) dX11_below_22 rfl ?_
      refine r_callV2 (pc := 23) dX11_below_23 qX11_isBelow kX11_246 vX11_isBelow (by exact isM.gx (by assumption)) rfl rfl (Nat.le_of_ble_eq_true rfl) (m_isBelow d hB hC2 hP ho (by omega) (by omega)) (fun v_23 h_23 q_23 => ?_)
      obtain ⟨rfl, rfl⟩ := q_23
      refine rj_if_eq (pc := 26) (tgt := 33) dX11_below_26 (by decide) (by first | assumption | exact b01_r | exact bz_r | omega | (constructor <;> omega) | exact hM _ | exact hPo _ | exact hTa _ | exact hRo _) (fun c_26 => ?_) (fun c_26 => ?_)
      · try simp only [b01_0, bz_0, Classical.not_not] at c_26
        refine rj_iconst (pc := 33) dX11_below_33 ?_
        refine r_ireturn (pc := 34) .int dX11_below_34 rfl (by first | rfl | assumption) ?_
        first
        | exact ⟨by unfold belowV; rw [if_neg (by omega)], rfl⟩
        | exact ⟨by unfold belowV; rw [if_pos ⟨c_5, c_13⟩, bz_t c_26], rfl⟩
        | exact ⟨by unfold belowV; rw [if_pos ⟨c_5, c_13⟩, bz_f c_26], rfl⟩
      · try simp only [b01_0, bz_0, Classical.not_not] at c_26
        refine rj_iconst (pc := 29) dX11_below_29 ?_
        refine r_goto (pc := 30) (tgt := 34) dX11_below_30 (by decide) ?_
        refine r_ireturn (pc := 34) .int dX11_below_34 rfl (by first | rfl | assumption) ?_
        first
        | exact ⟨by unfold belowV; rw [if_neg (by omega)], rfl⟩
        | exact ⟨by unfold belowV; rw [if_pos ⟨c_5, c_13⟩, bz_t c_26], rfl⟩
        | exact ⟨by unfold belowV; rw [if_pos ⟨c_5, c_13⟩, bz_f c_26], rfl⟩
    · try simp only [b01_0, bz_0, Classical.not_not] at c_13
      refine rj_iconst (pc := 16) dX11_below_16 ?_
      refine r_goto (pc := 17) (tgt := 34) dX11_below_17 (by decide) ?_
      refine r_ireturn (pc := 34) .int dX11_below_34 rfl (by first | rfl | assumption) ?_
      first
      | exact ⟨by unfold belowV; rw [if_neg (by omega)], rfl⟩
      | exact ⟨by unfold belowV; rw [if_pos ⟨c_5, c_13⟩, bz_t c_26], rfl⟩
      | exact ⟨by unfold belowV; rw [if_pos ⟨c_5, c_13⟩, bz_f c_26], rfl⟩
end mg_37

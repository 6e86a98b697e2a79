section mg_39
set_option maxHeartbeats 4000000 in
set_option maxRecDepth 100000 in
theorem m_name {G : mG} {l : Launch} (d : Nat) {h : mH} {x s : Nat} {f4 f6 f8 f9 f10 f11 f12 f13 f14 f16 f18 : Int} {m kp was pool tape pln pap rwd rw : Nat → Int}(hB : isM h x (mFs x f4 f6 f8 f9 f10 f11 f12 f13 f14 f16 f18 s) m kp was pool tape pln pap rwd rw) (hM : ∀ q, InR (m q)) (h1 : 0 ≤ m 1 ∧ m 1 ≤ 90) (hL : lenOk m) {t i : Int} (ht : InR t) (hi : InR i) : RUNM G l (d + 2) mX11_name [.ref x, .int (J t), .int (J i)] h (fun v h' => v = some (.int (J (nameV m t i))) ∧ h' = h) := by
  dsimp only [mFs] at hB
  refine RUNM.of (by decide +kernel) (Nat.le_of_ble_eq_true rfl) ?_
  refine r_aload_n (pc := 0) dX11_name_0 rfl (by first | rfl | exact isRefV_rf _) ?_
  refine r_iload_n (pc := 1) dX11_name_1 rfl ?_
  refine r_callV1 (pc := 2) dX11_name_2 qX11_isThing kX11_238 vX11_isThing (by exact isM.gx (by assumption)) rfl rfl (Nat.le_of_ble_eq_true rfl) (m_isThing d hB ht ⟨by omega, by omega⟩) (fun v_2 h_2 q_2 => ?_)
  obtain ⟨rfl, rfl⟩ := q_2
  refine rj_if_eq (pc := 5) (tgt := 29) dX11_name_5 (by decide) (by first | assumption | exact b01_r | exact bz_r | omega | (constructor <;> omega) | exact hM _ | exact hPo _ | exact hTa _ | exact hRo _) (fun c_5 => ?_) (fun c_5 => ?_)
  · try simp only [b01_0, bz_0, Classical.not_not] at c_5
    refine rj_iconst (pc := 29) dX11_name_29 ?_
    refine r_ireturn (pc := 30) .int dX11_name_30 rfl (by first | rfl | assumption) ?_
    first
    | exact ⟨by unfold nameV; rw [if_neg (fun g => c_5 g.1)], rfl⟩
    | exact ⟨by unfold nameV; rw [if_neg (fun g => c_26 g.2)], rfl⟩
    | exact ⟨by unfold nameV; rw [if_pos ⟨c_5, c_26⟩, if_neg (by omega)], rfl⟩
    | exact ⟨by unfold nameV; rw [if_pos ⟨c_5, c_26⟩, if_pos (by omega)], rfl⟩
  · try simp only [b01_0, bz_0, Classical.not_not] at c_5
    obtain ⟨l0, l7⟩ := hL t c_5.1 c_5.2
    refine r_iload_n (pc := 8) dX11_name_8 rfl ?_
    refine rj_iconst (pc := 9) dX11_name_9 ?_
    refine r_aload_n (pc := 10) dX11_name_10 rfl (by first | rfl | exact isRefV_rf _) ?_
    refine rm_getf (pc := 11) dX11_name_11 fX11_11 (by assumption) rfl ?_
    refine r_iload_n (pc := 14) dX11_name_14 rfl ?_
    refine rj_iconst (pc := 15) dX11_name_15 ?_
    refine rj_iconst (pc := 16) dX11_name_16 ?_
    refine r_callS3 (pc := 17) dX11_name_17 qX11_ofThing kX11_54 sX11_ofThing (Nat.le_of_ble_eq_true rfl) (m_ofThing (d + 1)) (fun v_17 h_17 q_17 => ?_)
    obtain ⟨rfl, rfl⟩ := q_17
    refine rj_iald (pc := 20) (j := (261 + 14 * t).toNat) dX11_name_20 (by first | exact isM.g0 (by assumption) | exact isM.g3 (by assumption) | exact isM.g4 (by assumption) | exact isM.g8 (by assumption) | exact isM.g7 (by assumption) | exact isM.g6 (by assumption) | exact isM.g5 (by assumption) | exact isM.g1 (by assumption) | exact isM.g2 (by assumption)) (by first | assumption | exact b01_r | exact bz_r | omega | (constructor <;> omega) | exact hM _ | exact hPo _ | exact hTa _ | exact hRo _) (by first | assumption | exact b01_r | exact bz_r | omega | (constructor <;> omega) | exact hM _ | exact hPo _ | exact hTa _ | exact hRo _) (by first | assumption | exact b01_r | exact bz_r | omega | (constructor <;> omega) | exact hM _ | exact hPo _ | exact hTa _ | exact hRo _) (by omega) ?_
    refine rj_iconst (pc := 21) dX11_name_21 ?_
    refine rj_isub (pc := 22) dX11_name_22 ?_
    refine r_callS3 (pc := 23) dX11_name_23 qX11_isIn kX11_46 sX11_isIn (Nat.le_of_ble_eq_true rfl) (m_isIn (d + 1) hi (by decide) ⟨by omega, by omega⟩) (fun v_23 h_23 q_23 => ?_)
    obtain ⟨rfl, rfl⟩ := q_23
    refine rj_if_ne (pc := 26) (tgt := 31) dX11_name_26 (by decide) (by first | assumption | exact b01_r | exact bz_r | omega | (constructor <;> omega) | exact hM _ | exact hPo _ | exact hTa _ | exact hRo _) (fun c_26 => ?_) (fun c_26 => ?_)
    · try simp only [b01_0, bz_0, Classical.not_not] at c_26
      refine r_iload_n (pc := 31) dX11_name_31 rfl ?_
      refine rj_if_ge (pc := 32) (tgt := 49) dX11_name_32 (by decide) (by first | assumption | exact b01_r | exact bz_r | omega | (constructor <;> omega) | exact hM _ | exact hPo _ | exact hTa _ | exact hRo _) (fun c_32 => ?_) (fun c_32 => ?_)
      · refine r_aload_n (pc := 49) dX11_name_49 rfl (by first | rfl | exact isRefV_rf _) ?_
        refine rm_getf (pc := 50) dX11_name_50 fX11_11 (by assumption) rfl ?_
        refine r_iload_n (pc := 53) dX11_name_53 rfl ?_
        refine rj_bipush (pc := 54) dX11_name_54 (by decide +kernel) ?_
        refine r_iload_n (pc := 56) dX11_name_56 rfl ?_
        refine r_callS3 (pc := 57) dX11_name_57 qX11_ofThing kX11_54 sX11_ofThing (Nat.le_of_ble_eq_true rfl) (m_ofThing (d + 1)) (fun v_57 h_57 q_57 => ?_)
        obtain ⟨rfl, rfl⟩ := q_57
        refine rj_iald (pc := 60) (j := (265 + 14 * t + i).toNat) dX11_name_60 (by first | exact isM.g0 (by assumption) | exact isM.g3 (by assumption) | exact isM.g4 (by assumption) | exact isM.g8 (by assumption) | exact isM.g7 (by assumption) | exact isM.g6 (by assumption) | exact isM.g5 (by assumption) | exact isM.g1 (by assumption) | exact isM.g2 (by assumption)) (by first | assumption | exact b01_r | exact bz_r | omega | (constructor <;> omega) | exact hM _ | exact hPo _ | exact hTa _ | exact hRo _) (by first | assumption | exact b01_r | exact bz_r | omega | (constructor <;> omega) | exact hM _ | exact hPo _ | exact hTa _ | exact hRo _) (by first | assumption | exact b01_r | exact bz_r | omega | (constructor <;> omega) | exact hM _ | exact hPo _ | exact hTa _ | exact hRo _) (by omega) ?_
        refine r_ireturn (pc := 61) .int dX11_name_61 rfl (by first | rfl | assumption) ?_
        first
        | exact ⟨by unfold nameV; rw [if_neg (fun g => c_5 g.1)], rfl⟩
        | exact ⟨by unfold nameV; rw [if_neg (fun g => c_26 g.2)], rfl⟩
        | exact ⟨by unfold nameV; rw [if_pos ⟨c_5, c_26⟩, if_neg (by omega)], rfl⟩
        | exact ⟨by unfold nameV; rw [if_pos ⟨c_5, c_26⟩, if_pos (by omega)], rfl⟩
      · refine r_aload_n (pc := 35) dX11_name_35 rfl (by first | rfl | exact isRefV_rf _) ?_
        refine rm_getf (pc := 36) dX11_name_36 fX11_11 (by assumption) rfl ?_
        refine r_iload_n (pc := 39) dX11_name_39 rfl ?_
        refine rj_iconst (pc := 40) dX11_name_40 ?_
        refine rj_iconst (pc := 41) dX11_name_41 ?_
        refine r_callS3 (pc := 42) dX11_name_42 qX11_ofThing kX11_54 sX11_ofThing (Nat.le_of_ble_eq_true rfl) (m_ofThing (d + 1)) (fun v_42 h_42 q_42 => ?_)
        obtain ⟨rfl, rfl⟩ := q_42
        refine rj_iald (pc := 45) (j := (261 + 14 * t).toNat) dX11_name_45 (by first | exact isM.g0 (by assumption) | exact isM.g3 (by assumption) | exact isM.g4 (by assumption) | exact isM.g8 (by assumption) | exact isM.g7 (by assumption) | exact isM.g6 (by assumption) | exact isM.g5 (by assumption) | exact isM.g1 (by assumption) | exact isM.g2 (by assumption)) (by first | assumption | exact b01_r | exact bz_r | omega | (constructor <;> omega) | exact hM _ | exact hPo _ | exact hTa _ | exact hRo _) (by first | assumption | exact b01_r | exact bz_r | omega | (constructor <;> omega) | exact hM _ | exact hPo _ | exact hTa _ | exact hRo _) (by first | assumption | exact b01_r | exact bz_r | omega | (constructor <;> omega) | exact hM _ | exact hPo _ | exact hTa _ | exact hRo _) (by omega) ?_
        refine r_goto (pc := 46) (tgt := 61) dX11_name_46 (by decide) ?_
        refine r_ireturn (pc := 61) .int dX11_name_61 rfl (by first | rfl | assumption) ?_
        first
        | exact ⟨by unfold nameV; rw [if_neg (fun g => c_5 g.1)], rfl⟩
        | exact ⟨by unfold nameV; rw [if_neg (fun g => c_26 g.2)], rfl⟩
        | exact ⟨by unfold nameV; rw [if_pos ⟨c_5, c_26⟩, if_neg (by omega)], rfl⟩
        | exact ⟨by unfold nameV; rw [if_pos ⟨c_5, c_26⟩, if_pos (by omega)], rfl⟩
    · try simp only [b01_0, bz_0, Classical.not_not] at c_26
      refine rj_iconst (pc := 29) dX11_name_29 ?_
      refine r_ireturn (pc := 30) .int dX11_name_30 rfl (by first | rfl | assumption) ?_
      first
      | exact ⟨by unfold nameV; rw [if_neg (fun g => c_5 g.1)], rfl⟩
      | exact ⟨by unfold nameV; rw [if_neg (fun g => c_26 g.2)], rfl⟩
      | exact ⟨by unfold nameV; rw [if_pos ⟨c_5, c_26⟩, if_neg (by omega)], rfl⟩
      | exact ⟨by unfold nameV; rw [if_pos ⟨c_5, c_26⟩, if_pos (by omega)], rfl⟩
end mg_39

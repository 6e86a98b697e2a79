section mg_39
set_option maxHeartbeats 4000000 in
set_option maxRecDepth 100000 in
theorem m_manyFaults {G : mG} {l : Launch} (d : Nat) {h : mH} {x s : Nat} {f4 f6 f8 f9 f10 f11 f12 f13 f14 f16 f18 : Int} {m kp was pool tape pln pap rwd rw : Nat → Int}(hB : isM h x (mFs x f4 f6 f8 f9 f10 f11 f12 f13 f14 f16 f18 s) m kp was pool tape pln pap rwd rw) (hM : ∀ q, InR (m q)) {N : Nat} (hN : m 4 = (N : Int)) (hcap : N ≤ 120) {t : Int} (ht : InR t) (ht2 : t ≤ 9) : RUNM G l (d + 3) mX11_manyFaults [.ref x, .int (J t)] h (fun v h' => v = some (.int (J (manyV m N t))) ∧ h' = h) := by
  have hB0 := hB
  dsimp only [mFs] at hB
  refine RUNM.of (by decide +kernel) (Nat.le_of_ble_eq_true rfl) ?_
  refine r_iload_n (pc := 0) dX11_manyFaults_0 rfl ?_
  refine rj_if_ge (pc := 1) (tgt := 13) dX11_manyFaults_1 (by decide) (by first | assumption | exact b01_r | exact bz_r | omega | (constructor <;> omega) | exact hM _ | exact hPo _ | exact hTa _ | exact hRo _) (fun c_1 => ?_) (fun c_1 => ?_)
  · refine r_aload_n (pc := 13) dX11_manyFaults_13 rfl (by first | rfl | exact isRefV_rf _) ?_
    refine r_iload_n (pc := 14) dX11_manyFaults_14 rfl ?_
    refine r_callV1 (pc := 15) dX11_manyFaults_15 qX11_gatheredBy kX11_198 vX11_gatheredBy (by exact isM.gx (by assumption)) rfl rfl (Nat.le_of_ble_eq_true rfl) (m_gatheredBy d hB0 hM hN hcap ht) (fun v_15 h_15 q_15 => ?_)
    obtain ⟨rfl, rfl⟩ := q_15
    refine r_aload_n (pc := 18) dX11_manyFaults_18 rfl (by first | rfl | exact isRefV_rf _) ?_
    refine rm_getf (pc := 19) dX11_manyFaults_19 fX11_11 (by assumption) rfl ?_
    refine r_iload_n (pc := 22) dX11_manyFaults_22 rfl ?_
    refine rj_bipush (pc := 23) dX11_manyFaults_23 (by decide +kernel) ?_
    refine rj_iconst (pc := 25) dX11_manyFaults_25 ?_
    refine r_callS3 (pc := 26) dX11_manyFaults_26 qX11_ofTask kX11_58 sX11_ofTask (Nat.le_of_ble_eq_true rfl) (m_ofTask (d + 2)) (fun v_26 h_26 q_26 => ?_)
    obtain ⟨rfl, rfl⟩ := q_26
    refine rj_iald (pc := 29) (j := (1618 + 72 * t).toNat) dX11_manyFaults_29 (by first | exact isM.g0 (by assumption) | exact isM.g3 (by assumption) | exact isM.g4 (by assumption) | exact isM.g8 (by assumption) | exact isM.g7 (by assumption) | exact isM.g6 (by assumption) | exact isM.g5 (by assumption) | exact isM.g1 (by assumption) | exact isM.g2 (by assumption)) (by first | assumption | exact b01_r | exact bz_r | omega | (constructor <;> omega) | exact hM _ | exact hPo _ | exact hTa _ | exact hRo _) (by first | assumption | exact b01_r | exact bz_r | omega | (constructor <;> omega) | exact hM _ | exact hPo _ | exact hTa _ | exact hRo _) (by first | assumption | exact b01_r | exact bz_r | omega | (constructor <;> omega) | exact hM _ | exact hPo _ | exact hTa _ | exact hRo _) (by omega) ?_
    refine rj_if_eq (pc := 30) (tgt := 37) dX11_manyFaults_30 (by decide) (by first | assumption | exact b01_r | exact bz_r | omega | (constructor <;> omega) | exact hM _ | exact hPo _ | exact hTa _ | exact hRo _) (fun c_30 => ?_) (fun c_30 => ?_)
    · try simp only [b01_0, bz_0, Classical.not_not] at c_30
      refine rj_iconst (pc := 37) dX11_manyFaults_37 ?_
      refine rj_iadd (pc := 38) dX11_manyFaults_38 ?_
      refine r_ireturn (pc := 39) .int dX11_manyFaults_39 rfl (by first | rfl | assumption) ?_
      first
      | exact ⟨by unfold manyV; rw [if_neg (by omega)], rfl⟩
      | exact ⟨by unfold manyV; rw [if_pos (by omega), if_pos c_30], rfl⟩
      | exact ⟨by unfold manyV; rw [if_pos (by omega), if_neg c_30], rfl⟩
    · try simp only [b01_0, bz_0, Classical.not_not] at c_30
      refine rj_iconst (pc := 33) dX11_manyFaults_33 ?_
      refine r_goto (pc := 34) (tgt := 38) dX11_manyFaults_34 (by decide) ?_
      refine rj_iadd (pc := 38) dX11_manyFaults_38 ?_
      refine r_ireturn (pc := 39) .int dX11_manyFaults_39 rfl (by first | rfl | assumption) ?_
      first
      | exact ⟨by unfold manyV; rw [if_neg (by omega)], rfl⟩
      | exact ⟨by unfold manyV; rw [if_pos (by omega), if_pos c_30], rfl⟩
      | exact ⟨by unfold manyV; rw [if_pos (by omega), if_neg c_30], rfl⟩
  · refine r_aload_n (pc := 4) dX11_manyFaults_4 rfl (by first | rfl | exact isRefV_rf _) ?_
    refine rm_getf (pc := 5) dX11_manyFaults_5 fX11_11 (by assumption) rfl ?_
    refine rj_iconst (pc := 8) dX11_manyFaults_8 ?_
    refine rj_iald (pc := 9) (j := 5) dX11_manyFaults_9 (by first | exact isM.g0 (by assumption) | exact isM.g3 (by assumption) | exact isM.g4 (by assumption) | exact isM.g8 (by assumption) | exact isM.g7 (by assumption) | exact isM.g6 (by assumption) | exact isM.g5 (by assumption) | exact isM.g1 (by assumption) | exact isM.g2 (by assumption)) (by first | assumption | exact b01_r | exact bz_r | omega | (constructor <;> omega) | exact hM _ | exact hPo _ | exact hTa _ | exact hRo _) (by first | assumption | exact b01_r | exact bz_r | omega | (constructor <;> omega) | exact hM _ | exact hPo _ | exact hTa _ | exact hRo _) (by first | assumption | exact b01_r | exact bz_r | omega | (constructor <;> omega) | exact hM _ | exact hPo _ | exact hTa _ | exact hRo _) rfl ?_
    refine r_goto (pc := 10) (tgt := 39) dX11_manyFaults_10 (by decide) ?_
    refine r_ireturn (pc := 39) .int dX11_manyFaults_39 rfl (by first | rfl | assumption) ?_
    first
    | exact ⟨by unfold manyV; rw [if_neg (by omega)], rfl⟩
    | exact ⟨by unfold manyV; rw [if_pos (by omega), if_pos c_30], rfl⟩
    | exact ⟨by unfold manyV; rw [if_pos (by omega), if_neg c_30], rfl⟩
end mg_39

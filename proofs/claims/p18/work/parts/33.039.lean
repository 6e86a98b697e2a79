section mg_39
set_option maxHeartbeats 4000000 in
set_option maxRecDepth 100000 in
theorem m_faults {G : mG} {l : Launch} (d : Nat) {h : mH} {x s : Nat} {f4 f6 f8 f9 f10 f11 f12 f13 f14 f16 f18 : Int} {m kp was pool tape pln pap rwd rw : Nat → Int}(hB : isM h x (mFs x f4 f6 f8 f9 f10 f11 f12 f13 f14 f16 f18 s) m kp was pool tape pln pap rwd rw) (hM : ∀ q, InR (m q)) (h3 : 0 ≤ m 3 ∧ m 3 ≤ 10) {N : Nat} (hN : m 4 = (N : Int)) (hcap : N ≤ 120) {t : Int} (ht : InR t) : RUNM G l (d + 4) mX11_faults [.ref x, .int (J t)] h (fun v h' => v = some (.int (J (faultsV m N t))) ∧ h' = h) := by
  have hB0 := hB
  dsimp only [mFs] at hB
  refine RUNM.of (by decide +kernel) (Nat.le_of_ble_eq_true rfl) ?_
  refine r_aload_n (pc := 0) dX11_faults_0 rfl (by first | rfl | exact isRefV_rf _) ?_
  refine r_iload_n (pc := 1) dX11_faults_1 rfl ?_
  refine r_callV1 (pc := 2) dX11_faults_2 qX11_hasFaults kX11_229 vX11_hasFaults (by exact isM.gx (by assumption)) rfl rfl (Nat.le_of_ble_eq_true rfl) (m_hasFaults (d + 1) hB0 hM h3 ht) (fun v_2 h_2 q_2 => ?_)
  obtain ⟨rfl, rfl⟩ := q_2
  refine rj_if_eq (pc := 5) (tgt := 16) dX11_faults_5 (by decide) (by first | assumption | exact b01_r | exact bz_r | omega | (constructor <;> omega) | exact hM _ | exact hPo _ | exact hTa _ | exact hRo _) (fun c_5 => ?_) (fun c_5 => ?_)
  · try simp only [b01_0, bz_0, Classical.not_not] at c_5
    refine rj_iconst (pc := 16) dX11_faults_16 ?_
    refine r_ireturn (pc := 17) .int dX11_faults_17 rfl (by first | rfl | assumption) ?_
    first
    | exact ⟨by unfold faultsV; rw [if_pos c_5], rfl⟩
    | exact ⟨by unfold faultsV; rw [if_neg c_5], rfl⟩
  · try simp only [b01_0, bz_0, Classical.not_not] at c_5
    refine r_aload_n (pc := 8) dX11_faults_8 rfl (by first | rfl | exact isRefV_rf _) ?_
    refine r_iload_n (pc := 9) dX11_faults_9 rfl ?_
    refine r_callV1 (pc := 10) dX11_faults_10 qX11_manyFaults kX11_232 vX11_manyFaults (by exact isM.gx (by assumption)) rfl rfl (Nat.le_of_ble_eq_true rfl) (m_manyFaults d hB0 hM hN hcap ht (by omega)) (fun v_10 h_10 q_10 => ?_)
    obtain ⟨rfl, rfl⟩ := q_10
    refine r_goto (pc := 13) (tgt := 17) dX11_faults_13 (by decide) ?_
    refine r_ireturn (pc := 17) .int dX11_faults_17 rfl (by first | rfl | assumption) ?_
    first
    | exact ⟨by unfold faultsV; rw [if_pos c_5], rfl⟩
    | exact ⟨by unfold faultsV; rw [if_neg c_5], rfl⟩
end mg_39

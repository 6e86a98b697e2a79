section mg_39
set_option maxHeartbeats 4000000 in
set_option maxRecDepth 100000 in
theorem m_hasFaults {G : mG} {l : Launch} (d : Nat) {h : mH} {x s : Nat} {f4 f6 f8 f9 f10 f11 f12 f13 f14 f16 f18 : Int} {m kp was pool tape pln pap rwd rw : Nat → Int}(hB : isM h x (mFs x f4 f6 f8 f9 f10 f11 f12 f13 f14 f16 f18 s) m kp was pool tape pln pap rwd rw) (hM : ∀ q, InR (m q)) (h3 : 0 ≤ m 3 ∧ m 3 ≤ 10) {t : Int} (ht : InR t) : RUNM G l (d + 2) mX11_hasFaults [.ref x, .int (J t)] h (fun v h' => v = some (.int (J (b01 (t = -1 ∨ (0 ≤ t ∧ t ≤ m 3 - 1))))) ∧ h' = h) := by
  dsimp only [mFs] at hB
  refine RUNM.of (by decide +kernel) (Nat.le_of_ble_eq_true rfl) ?_
  refine r_iload_n (pc := 0) dX11_hasFaults_0 rfl ?_
  refine rj_iconst (pc := 1) dX11_hasFaults_1 ?_
  refine rj_icmp_eq (pc := 2) (tgt := 13) dX11_hasFaults_2 (by decide) (by first | assumption | exact b01_r | exact bz_r | omega | (constructor <;> omega) | exact hM _ | exact hPo _ | exact hTa _ | exact hRo _) (by first | assumption | exact b01_r | exact bz_r | omega | (constructor <;> omega) | exact hM _ | exact hPo _ | exact hTa _ | exact hRo _) (fun c_2 => ?_) (fun c_2 => ?_)
  · refine rj_iconst (pc := 13) dX11_hasFaults_13 ?_
    refine r_goto (pc := 14) (tgt := 18) dX11_hasFaults_14 (by decide) ?_
    refine r_ireturn (pc := 18) .boolean dX11_hasFaults_18 rfl (by first | exact nar_J0 | exact nar_J1 | exact nar_b01 | exact nar_bz) ?_
    first
    | exact ⟨rfl, rfl⟩
    | exact ⟨vf (by omega), rfl⟩
    | exact ⟨vt (by omega), rfl⟩
  · refine r_aload_n (pc := 5) dX11_hasFaults_5 rfl (by first | rfl | exact isRefV_rf _) ?_
    refine r_iload_n (pc := 6) dX11_hasFaults_6 rfl ?_
    refine r_callV1 (pc := 7) dX11_hasFaults_7 qX11_isTask kX11_180 vX11_isTask (by exact isM.gx (by assumption)) rfl rfl (Nat.le_of_ble_eq_true rfl) (m_isTask d hB ht ⟨by omega, by omega⟩) (fun v_7 h_7 q_7 => ?_)
    obtain ⟨rfl, rfl⟩ := q_7
    refine rj_if_eq (pc := 10) (tgt := 17) dX11_hasFaults_10 (by decide) (by first | assumption | exact b01_r | exact bz_r | omega | (constructor <;> omega) | exact hM _ | exact hPo _ | exact hTa _ | exact hRo _) (fun c_10 => ?_) (fun c_10 => ?_)
    · try simp only [b01_0, bz_0, Classical.not_not] at c_10
      refine rj_iconst (pc := 17) dX11_hasFaults_17 ?_
      refine r_ireturn (pc := 18) .boolean dX11_hasFaults_18 rfl (by first | exact nar_J0 | exact nar_J1 | exact nar_b01 | exact nar_bz) ?_
      first
      | exact ⟨rfl, rfl⟩
      | exact ⟨vf (by omega), rfl⟩
      | exact ⟨vt (by omega), rfl⟩
    · try simp only [b01_0, bz_0, Classical.not_not] at c_10
      refine rj_iconst (pc := 13) dX11_hasFaults_13 ?_
      refine r_goto (pc := 14) (tgt := 18) dX11_hasFaults_14 (by decide) ?_
      refine r_ireturn (pc := 18) .boolean dX11_hasFaults_18 rfl (by first | exact nar_J0 | exact nar_J1 | exact nar_b01 | exact nar_bz) ?_
      first
      | exact ⟨rfl, rfl⟩
      | exact ⟨vf (by omega), rfl⟩
      | exact ⟨vt (by omega), rfl⟩
end mg_39

section mg_73
set_option maxHeartbeats 4000000 in
set_option maxRecDepth 100000 in
theorem m_judge {G : mG} {l : Launch} (d : Nat) {h : mH} {x s : Nat} {f4 f6 f8 f9 f10 f11 f12 f13 f14 f16 f18 : Int} {m kp was pool tape pln pap rwd rw : Nat → Int}(hB : isM h x (mFs x f4 f6 f8 f9 f10 f11 f12 f13 f14 f16 f18 s) m kp was pool tape pln pap rwd rw) (hok : mOk m) (hRo : ∀ q, InR (rwd q)) (hRw : ∀ q, InR (rw q)) (h40 : ∀ q, rwd q ≤ 40) {r i : Int} (hr : InR r) (hi : InR i) : RUNM G l (d + 3) mX11_judge [.ref x, .int (J r), .int (J i)] h (fun v h' => (∃ a, InR a ∧ v = some (.int (J a))) ∧ h' = h) := by
  have hB0 := hB
  have k2 := hok.2.2.2.1
  have wv : wrongV rwd r = 0 → (0 ≤ r ∧ r ≤ 3) ∧ 0 ≤ rwd r.toNat := by unfold wrongV; intro g; split at g <;> (try split at g) <;> first | (exfalso; omega) | omega
  have rwr : InR (wrongV rwd r) := by unfold wrongV; split <;> (try split) <;> decide
  dsimp only [mFs] at hB
  refine RUNM.of (by decide +kernel) (Nat.le_of_ble_eq_true rfl) ?_
  refine r_aload_n (pc := 0) dX11_judge_0 rfl (by first | rfl | exact isRefV_rf _) ?_
  refine r_iload_n (pc := 1) dX11_judge_1 rfl ?_
  refine r_callV1 (pc := 2) dX11_judge_2 qX11_wrong kX11_307 vX11_wrong (by exact isM.gx (by assumption)) rfl rfl (Nat.le_of_ble_eq_true rfl) (m_wrong d hB0 hRo hr) (fun v_2 h_2 q_2 => ?_)
  obtain ⟨rfl, rfl⟩ := q_2
  refine r_istore_n (pc := 5) dX11_judge_5 (Nat.le_of_ble_eq_true rfl) ?_
  dsimp only [lsSt, List.set, mLs, mEnt]
  refine r_iload_n (pc := 6) dX11_judge_6 rfl ?_
  refine rj_if_eq (pc := 7) (tgt := 12) dX11_judge_7 (by decide) (by first | assumption | exact b01_r | exact bz_r | omega | (constructor <;> omega) | exact hM _ | exact hPo _ | exact hTa _ | exact hRo _) (fun c_7 => ?_) (fun c_7 => ?_)
  · try simp only [b01_0, bz_0, Classical.not_not] at c_7
    refine rj_iconst (pc := 12) dX11_judge_12 ?_
    refine r_istore (pc := 13) dX11_judge_13 (Nat.le_of_ble_eq_true rfl) ?_
    dsimp only [lsSt, List.set, mLs, mEnt]
    rw [c_7]
    exact L_judge (G := G) (l := l) (d + 3) hB0 hok hRo hRw h40 (wv c_7).1 hi (wv c_7).2 (m 2).toNat 0 (by omega)
  · try simp only [b01_0, bz_0, Classical.not_not] at c_7
    refine r_iload_n (pc := 10) dX11_judge_10 rfl ?_
    refine r_ireturn (pc := 11) .int dX11_judge_11 rfl (by first | rfl | assumption) ?_
    exact ⟨⟨_, rwr, rfl⟩, rfl⟩
end mg_73

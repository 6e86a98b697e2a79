section mg_44
set_option maxHeartbeats 4000000 in
set_option maxRecDepth 100000 in
theorem m_ready {G : mG} {l : Launch} (d : Nat) {h : mH} {x s : Nat} {f4 f6 f8 f9 f10 f11 f12 f13 f14 f16 f18 : Int} {m kp was pool tape pln pap rwd rw : Nat → Int}(hB : isM h x (mFs x f4 f6 f8 f9 f10 f11 f12 f13 f14 f16 f18 s) m kp was pool tape pln pap rwd rw) (hM : ∀ q, InR (m q)) {T : Nat} (hT : m 3 = (T : Int)) (hT2 : T ≤ 10) (hP : ∀ t, t < T → -99 ≤ m (1609 + 72 * t) ∧ m (1609 + 72 * t) ≤ 99) {k : Int} (hk : InR k) : RUNM G l (d + 3) mX11_ready [.ref x, .int (J k)] h (fun v h' => v = some (.int (J (readyV m T k))) ∧ h' = h) := by
  have hB0 := hB
  dsimp only [mFs] at hB
  refine RUNM.of (by decide +kernel) (Nat.le_of_ble_eq_true rfl) ?_
  refine r_iload_n (pc := 0) dX11_ready_0 rfl ?_
  refine rj_if_ge (pc := 1) (tgt := 6) dX11_ready_1 (by decide) (by first | assumption | exact b01_r | exact bz_r | omega | (constructor <;> omega) | exact hM _ | exact hPo _ | exact hTa _ | exact hRo _) (fun c_1 => ?_) (fun c_1 => ?_)
  · refine rj_iconst (pc := 6) dX11_ready_6 ?_
    refine r_istore_n (pc := 7) dX11_ready_7 (Nat.le_of_ble_eq_true rfl) ?_
    dsimp only [lsSt, List.set, mLs, mEnt]
    rw [show readyV m T k = rdO m T k T 0 by unfold readyV; rw [if_neg (by omega)]]
    exact L_ready d hB0 hM hT hT2 hP hk T 0 _ _ (by omega)
  · refine rj_iconst (pc := 4) dX11_ready_4 ?_
    refine r_ireturn (pc := 5) .int dX11_ready_5 rfl (by first | rfl | assumption) ?_
    exact ⟨by unfold readyV; rw [if_pos (by omega)], rfl⟩
end mg_44

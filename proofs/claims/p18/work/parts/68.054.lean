section mg_73
set_option maxHeartbeats 4000000 in
set_option maxRecDepth 100000 in
theorem m_against2 {G : mG} {l : Launch} (d : Nat) {h : mH} {x s : Nat} {f4 f6 f8 f9 f10 f11 f12 f13 f14 f16 f18 : Int} {m kp was pool tape pln pap rwd rw : Nat → Int}(hB : isM h x (mFs x f4 f6 f8 f9 f10 f11 f12 f13 f14 f16 f18 s) m kp was pool tape pln pap rwd rw) (hok : mOk m) {N : Nat} (hN : m 1 = (N : Int)) (hnm : ∀ t : Nat, t < N → (0 ≤ m (261 + 14 * t) ∧ m (261 + 14 * t) ≤ 7) ∧ ∀ k : Nat, k < 7 → -200 ≤ m (265 + 14 * t + k) ∧ m (265 + 14 * t + k) ≤ 200) {t o : Nat} (ht : t < N) (ho : o < N) : RUNM G l (d + 2) mX11_against_ [.ref x, .int (J (t : Int)), .int (J (o : Int))] h (fun v h' => v = some (.int (J (agT m t o))) ∧ h' = h) := by
  have hB0 := hB
  dsimp only [mFs] at hB
  refine RUNM.of (by decide +kernel) (Nat.le_of_ble_eq_true rfl) ?_
  have hk1 := hok.2.2.1
  obtain ⟨g1, g2⟩ := hnm t ht
  obtain ⟨g3, g4⟩ := hnm o ho
  refine r_aload_n (pc := 0) dX11_against__0 rfl (by first | rfl | exact isRefV_rf _) ?_
  refine r_iload_n (pc := 1) dX11_against__1 rfl ?_
  refine r_aload_n (pc := 2) dX11_against__2 rfl (by first | rfl | exact isRefV_rf _) ?_
  refine rm_getf (pc := 3) dX11_against__3 fX11_11 (by assumption) rfl ?_
  refine r_iload_n (pc := 6) dX11_against__6 rfl ?_
  refine rj_bipush (pc := 7) dX11_against__7 (by decide +kernel) ?_
  refine rj_iconst (pc := 9) dX11_against__9 ?_
  refine r_callS3 (pc := 10) dX11_against__10 qX11_ofThing kX11_54 sX11_ofThing (Nat.le_of_ble_eq_true rfl) (m_ofThing (d + 1)) (fun v_10 h_10 q_10 => ?_)
  obtain ⟨rfl, rfl⟩ := q_10
  refine r_aload_n (pc := 13) dX11_against__13 rfl (by first | rfl | exact isRefV_rf _) ?_
  refine rm_getf (pc := 14) dX11_against__14 fX11_11 (by assumption) rfl ?_
  refine r_iload_n (pc := 17) dX11_against__17 rfl ?_
  refine rj_iconst (pc := 18) dX11_against__18 ?_
  refine rj_iconst (pc := 19) dX11_against__19 ?_
  refine r_callS3 (pc := 20) dX11_against__20 qX11_ofThing kX11_54 sX11_ofThing (Nat.le_of_ble_eq_true rfl) (m_ofThing (d + 1)) (fun v_20 h_20 q_20 => ?_)
  obtain ⟨rfl, rfl⟩ := q_20
  refine rj_iald (pc := 23) (j := 261 + 14 * o) dX11_against__23 (by first | exact isM.g0 (by assumption) | exact isM.g3 (by assumption) | exact isM.g4 (by assumption) | exact isM.g8 (by assumption) | exact isM.g7 (by assumption) | exact isM.g6 (by assumption) | exact isM.g5 (by assumption) | exact isM.g1 (by assumption) | exact isM.g2 (by assumption)) (by first | assumption | exact b01_r | exact bz_r | omega | (constructor <;> omega) | exact hM _ | exact hPo _ | exact hTa _ | exact hRo _) (by first | assumption | exact b01_r | exact bz_r | omega | (constructor <;> omega) | exact hM _ | exact hPo _ | exact hTa _ | exact hRo _) (by first | assumption | exact b01_r | exact bz_r | omega | (constructor <;> omega) | exact hM _ | exact hPo _ | exact hTa _ | exact hRo _) (by omega) ?_
  refine r_callV4 (pc := 24) dX11_against__24 qX11_against kX11_264 vX11_against (by exact isM.gx (by assumption)) rfl rfl (Nat.le_of_ble_eq_true rfl) (by have y := m_against (G := G) (l := l) d hB0 hok (rs := 0) (fr := 265 + 14 * o) (t := t) (rc := m) (b := m (261 + 14 * o)) (Or.inr ⟨rfl, rfl, by omega⟩) g3.1 (by omega) g1 g2 (fun k hk => g4 k (by omega)); rw [show ((265 + 14 * o : Nat) : Int) = 258 + 14 * (o : Int) + 7 + 0 by omega] at y; exact y) (fun v_24 h_24 q_24 => ?_)
  obtain ⟨rfl, rfl⟩ := q_24
  refine r_ireturn (pc := 27) .int dX11_against__27 rfl (by first | rfl | assumption) ?_
  exact ⟨rfl, rfl⟩
end mg_73

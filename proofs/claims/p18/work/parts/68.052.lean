section mg_73
set_option maxHeartbeats 4000000 in
set_option maxRecDepth 100000 in
theorem m_against {G : mG} {l : Launch} (d : Nat) {h : mH} {x s : Nat} {f4 f6 f8 f9 f10 f11 f12 f13 f14 f16 f18 : Int} {m kp was pool tape pln pap rwd rw : Nat → Int}(hB : isM h x (mFs x f4 f6 f8 f9 f10 f11 f12 f13 f14 f16 f18 s) m kp was pool tape pln pap rwd rw) (hok : mOk m) {rs fr t : Nat} {rc : Nat → Int} {b : Int} (hR : (rs = 4 ∧ rc = tape ∧ (fr : Int) + b ≤ 120) ∨ (rs = 0 ∧ rc = m ∧ (fr : Int) + b ≤ 2928)) (hb : 0 ≤ b) (ht : t ≤ 89) (h7 : 0 ≤ m (261 + 14 * t) ∧ m (261 + 14 * t) ≤ 7) (hn : ∀ k : Nat, k < 7 → -200 ≤ m (265 + 14 * t + k) ∧ m (265 + 14 * t + k) ≤ 200) (hc : ∀ k : Nat, (k : Int) < b → -200 ≤ rc (fr + k) ∧ rc (fr + k) ≤ 200) : RUNM G l (d + 1) mX11_against [.ref x, .int (J (t : Int)), .ref (mAd x rs), .int (J (fr : Int)), .int (J b)] h (fun v h' => v = some (.int (J (agV m rc t fr b))) ∧ h' = h) := by
  have hB0 := hB
  dsimp only [mFs] at hB
  refine RUNM.of (by decide +kernel) (Nat.le_of_ble_eq_true rfl) ?_
  refine r_aload_n (pc := 0) dX11_against_0 rfl (by first | rfl | exact isRefV_rf _) ?_
  refine rm_getf (pc := 1) dX11_against_1 fX11_11 (by assumption) rfl ?_
  refine r_iload_n (pc := 4) dX11_against_4 rfl ?_
  refine rj_iconst (pc := 5) dX11_against_5 ?_
  refine rj_iconst (pc := 6) dX11_against_6 ?_
  refine r_callS3 (pc := 7) dX11_against_7 qX11_ofThing kX11_54 sX11_ofThing (Nat.le_of_ble_eq_true rfl) (m_ofThing d) (fun v_7 h_7 q_7 => ?_)
  obtain ⟨rfl, rfl⟩ := q_7
  refine rj_iald (pc := 10) (j := 261 + 14 * t) dX11_against_10 (by first | exact isM.g0 (by assumption) | exact isM.g3 (by assumption) | exact isM.g4 (by assumption) | exact isM.g8 (by assumption) | exact isM.g7 (by assumption) | exact isM.g6 (by assumption) | exact isM.g5 (by assumption) | exact isM.g1 (by assumption) | exact isM.g2 (by assumption)) (by first | assumption | exact b01_r | exact bz_r | omega | (constructor <;> omega) | exact hM _ | exact hPo _ | exact hTa _ | exact hRo _) (by first | assumption | exact b01_r | exact bz_r | omega | (constructor <;> omega) | exact hM _ | exact hPo _ | exact hTa _ | exact hRo _) (by first | assumption | exact b01_r | exact bz_r | omega | (constructor <;> omega) | exact hM _ | exact hPo _ | exact hTa _ | exact hRo _) (by omega) ?_
  refine r_istore (pc := 11) dX11_against_11 (Nat.le_of_ble_eq_true rfl) ?_
  dsimp only [lsSt, List.set, mLs, mEnt]
  refine rj_iconst (pc := 13) dX11_against_13 ?_
  refine r_istore (pc := 14) dX11_against_14 (Nat.le_of_ble_eq_true rfl) ?_
  dsimp only [lsSt, List.set, mLs, mEnt]
  exact L_against d hB0 hok hR hb ht h7 hn hc (agN (m (261 + 14 * t)) b) 0 none (by omega)
end mg_73
